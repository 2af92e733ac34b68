/-! ===== the law's loop: its end ===== -/
/-- null into a row of objects -/
def hpn (x : Int32) (e : Option xE) (F : xE → Prop) : Prop := match e with
  | some (.inl (t', (n, .inr (.inr (.inr (.inr f)))))) => (t' = 4 ∨ t' = 6 ∨ t' = 7 ∨ t' = 8) ∧ (yix x n ∧ F (.inl (t', (n, .inr (.inr (.inr (.inr (va_up f x.toNatClampNeg none))))))))
  | _ => False
theorem hs_aastn {d k i pc a : Nat} {aux : List Int} {ls : xL} {st : List Value} {σ : xS} {Q : xR → xS → Prop} {x : Int32} (hf : ft k i = some (pc, .aastore, aux)) : G d k i ls (.null :: .int x :: .ref a :: st) σ Q ↔ a < 1000000 ∧ hpn x (σ.1 a) (fun e => G d k (i + 1) ls st (xwr σ a e) Q) := by
  rw [G_eq hf]
  show Gs d k i ls σ Q (xastA i ls (.null :: .int x :: .ref a :: st) σ) ↔ _
  unfold xastA hpn yix
  dsimp only
  by_cases ha : a < 1000000
  · simp only [ha, if_true, true_and]
    rcases h : σ.1 a with _ | (⟨t', n, f | f | f | f | f⟩ | ⟨c', fs⟩)
    all_goals first
      | exact Iff.rfl
      | (simp only
         split <;> rename_i hc
         · obtain ⟨g1, g2⟩ := hc
           simp only [Gs, g1, g2, true_and, not_false_eq_true]
           try exact Iff.rfl
         · simp only [Gs]
           exact ⟨fun h => h.elim, fun h => hc ⟨h.1, h.2.1⟩⟩)
  · simp only [ha, if_false, false_and]
    exact Iff.rfl
theorem hpn_o {t n : Nat} {x : Int32} {g : Nat → Option Nat} {FE : xE → Prop} (ht : t = 4 ∨ t = 6 ∨ t = 7 ∨ t = 8) : hpn x (some (.inl (t, (n, .inr (.inr (.inr (.inr g))))))) FE ↔ yix x n ∧ FE (.inl (t, (n, .inr (.inr (.inr (.inr (va_up g x.toNatClampNeg none))))))) := by
  unfold hpn
  simp only [ht, true_and]
section
variable {d M M' s lo hi c x k bf sl pv p y n : Nat} {σ τ : xS} {R R1 : pR} {cv : Value} {dn' en' eo en i2 yd yn : Int32} {D D1 X X1 : yD} {E E1 : Nat → yD} {s0 s1 s0' s1' : Option yD} {Q : xR → xS → Prop} {l11 l12 l13 l14 l15 l16 l17 l18 l19 l20 l21 l22 l23 l24 l25 l26 l27 l28 l29 l30 l31 l32 : Option Value}
theorem s_244_583n {st : List Value} {a : Nat} {x : Int32} : G d 244 583 [some (.ref 1000000), some (.int 1), some (.int i2), some (.ref 0), some (.ref 160), some (.ref 161), some (.ref s), some (.ref bf), some (.ref sl), some (.int yd), some (.int yn), l11, l12, l13, l14, l15, l16, l17, l18, l19, l20, l21, l22, l23, l24, l25, l26, l27, l28, l29, l30, l31, l32] (.null :: .int x :: .ref a :: st) σ Q ↔ a < 1000000 ∧ hpn x (σ.1 a) (fun e => G d 244 584 [some (.ref 1000000), some (.int 1), some (.int i2), some (.ref 0), some (.ref 160), some (.ref 161), some (.ref s), some (.ref bf), some (.ref sl), some (.int yd), some (.int yn), l11, l12, l13, l14, l15, l16, l17, l18, l19, l20, l21, l22, l23, l24, l25, l26, l27, l28, l29, l30, l31, l32] st (xwr σ a e) Q) := hs_aastn f_244_583
theorem ykl_k {v : Option Value} : ykl (ykl v) = ykl v := by
  rcases v with _ | (_ | _ | _ | _ | _ | _) <;> rfl
/-- one further on -/
theorem l_244_ta (hb : bf < 1000000) : ∀ m (σ : xS) (g : Nat → Option Nat), m ≤ 8 → bf < σ.2.1.1 → σ.1 bf = some (prow 7 9 g) → (∀ j b, g j = some b → b < 1000000 ∧ (b ≠ bf ∧ ∃ fs, σ.1 b = some (.inr (12, fs)))) → ∃ τ g', Gg (d + 60) 244 574 [some (.ref 1000000), some (.int 1), some (.int i2), some (.ref 0), some (.ref 160), some (.ref 161), some (.ref s), some (.ref bf), some (.ref sl), some (.int yd), some (.int yn), some (.ref pv), l12, l13, l14, ykl l15, some (.int (yI m)), l17, l18, l19, l20, l21, l22, l23, l24, l25, l26, l27, l28, l29, l30, l31, l32] [] σ 586 [some (.ref 1000000), some (.int 1), some (.int i2), some (.ref 0), some (.ref 160), some (.ref 161), some (.ref s), some (.ref bf), some (.ref sl), some (.int yd), some (.int yn), some (.ref pv), l12, l13, l14, ykl l15, some (.int (yI 0)), l17, l18, l19, l20, l21, l22, l23, l24, l25, l26, l27, l28, l29, l30, l31, l32] [] τ ∧ (pF (fun b => b = bf ∨ b = sl) 0 0 σ τ ∧ ((τ.1 bf = some (prow 7 9 g') ∧ ∀ a, a ≠ bf → τ.1 a = σ.1 a) ∧ ∀ j, g' j = if 1 ≤ j ∧ j ≤ m then g (j - 1) else g j)) := by
  intro m
  induction m with
  | zero =>
    intro σ g _ _ h _
    have z : yI 0 ≤ 0 := by decide
    refine ⟨σ, g, fun Q => ?_, pF.rfl', ⟨h, fun _ _ => rfl⟩, fun j => by rw [if_neg (by omega)]⟩
    rw [s_244_574]
    simp only [s_244_575, z, if_true]
  | succ m ih =>
    intro σ g hm hl h hv
    have z : ¬ yI (m + 1) ≤ 0 := fun q => by
      have := (yI_le (m := 0) (by omega) (by decide)).mp q
      omega
    have z1 : yI (m + 1) - 1 = yI m := yI_sub1 (by omega)
    have z2 : yI (m + 1) + (-1) = yI m := yI_dec (by omega)
    have r0 : xRd σ bf = some (prow 7 9 g) := by rw [yrd_lt hb, h]
    have i0 : yix (yI m) 9 := yix_I (by omega) (by omega)
    have i1 : yix (yI (m + 1)) 9 := yix_I (by omega) (by omega)
    have c0 : (yI m).toNatClampNeg = m := yI_clamp (by omega)
    have c1 : (yI (m + 1)).toNatClampNeg = m + 1 := yI_clamp (by omega)
    obtain ⟨σ1, e1⟩ : ∃ σ1, σ1 = xwr σ bf (prow 7 9 (va_up g (m + 1) (g m))) := ⟨_, rfl⟩
    have F1 : pF (fun b => b = bf ∨ b = sl) 0 0 σ σ1 := by rw [e1]; exact pF_wr hl (Or.inl rfl)
    have h1 : σ1.1 bf = some (prow 7 9 (va_up g (m + 1) (g m))) := by rw [e1]; exact pwr_at
    have l1 : bf < σ1.2.1.1 := by rw [e1]; exact hl
    have hv1 : ∀ j b, va_up g (m + 1) (g m) j = some b → b < 1000000 ∧ (b ≠ bf ∧ ∃ fs, σ1.1 b = some (.inr (12, fs))) := by
      have key : ∀ j b, g j = some b → b < 1000000 ∧ (b ≠ bf ∧ ∃ fs, σ1.1 b = some (.inr (12, fs))) := fun j b q => by
        obtain ⟨q1, q2, fs, q3⟩ := hv j b q
        exact ⟨q1, q2, fs, by rw [e1, xwr_1, if_neg q2, q3]⟩
      intro j b q
      unfold va_up at q
      split at q
      · exact key _ _ q
      · exact key _ _ q
    obtain ⟨τ, g', st, F, ⟨h2, h4⟩, h3⟩ := ih σ1 _ (by omega) l1 h1 hv1
    refine ⟨τ, g', fun Q => Iff.trans ?_ (st Q), (pF.trans F1 F (fun _ _ q => q.elim id id)).mono (fun _ _ q => q) (Nat.le_refl _) (Nat.le_refl _), ⟨h2, fun a ha => by rw [h4 a ha, e1, xwr_1, if_neg ha]⟩, fun j => ?_⟩
    · rw [s_244_574]
      cases hg : g m with
      | none =>
        rw [hg] at e1
        simp only [s_244_575, s_244_576, s_244_577, s_244_578, s_244_579, s_244_580, s_244_581, s_244_582, s_244_584, s_244_585, s_244_583n, r0, h, z, z1, z2, i0, i1, c0, c1, hg, hb, haa_t hb (show 4 ≤ 7 ∧ 7 ≤ 8 by decide), hop_n, hpn_o (show (7 : Nat) = 4 ∨ 7 = 6 ∨ 7 = 7 ∨ 7 = 8 by decide), if_false, ykl_k, hgf_s, hsel_0, hsel_1, hsel_2, hsel_3, hsel_4, hsel_5, hsel_6, hsel_7, hsel_8, hset_0, hset_1, hset_2, hset_3, hset_4, hset_5, hset_6, hset_7, hset_8, hpf_s, hcl_s, hai_s, hpi_0, hpi_1, hln_0, hln_1, List.length_cons, List.length_nil, xwr_1, xwr_2, xnew_1, xnew_n, xnew_s, xnew_z, Nat.reduceLT, ite_true, and_self, hp_8_0, hp_8_1, hn_8_1, hp_8_2, hn_8_2, hp_9_0, hp_9_1, hp_9_2, hp_9_3, hp_9_4, hp_9_5, hn_9_5, hp_9_6, hn_9_6, hp_9_7, hn_9_7, hp_10_0, hp_10_1, hp_10_2, hn_10_2, hp_10_3, hn_10_3, hp_11_0, hp_12_0, hn_12_0, hp_12_1, hp_12_2, hp_12_3, hp_12_4, hp_12_5, hn_12_5, hp_12_6, hn_12_6, hp_12_7, hp_12_8, hp_13_0, hn_13_0, hp_13_1, hp_13_2, hp_13_3, hp_14_0, hn_14_0, hp_14_1, hp_14_2, hp_14_3, xdef_8, xdef_9, xdef_10, xdef_11, xdef_12, xdef_13, xdef_14, Gk_v, Gk_n, xcat_nil, xcat_i, xcat_r, xcat_l, xcat_d, Nat.zero_le, Nat.reduceAdd, Nat.reduceLeDiff, true_and, and_true, ykl_i, ykl_r, ykl_n, ykl_l]
        rw [← e1]
      | some b =>
        rw [hg] at e1
        obtain ⟨q1, q2, fs, q3⟩ := hv m b hg
        simp only [s_244_575, s_244_576, s_244_577, s_244_578, s_244_579, s_244_580, s_244_581, s_244_582, s_244_583, s_244_584, s_244_585, r0, h, z, z1, z2, i0, i1, c0, c1, hg, hb, q1, q3, haa_t hb (show 4 ≤ 7 ∧ 7 ≤ 8 by decide), hop_s, hpa_o (show (7 : Nat) = 4 ∨ 7 = 6 ∨ 7 = 7 ∨ 7 = 8 by decide) (show 12 = xofA 7 from rfl), if_false, ykl_k, hgf_s, hsel_0, hsel_1, hsel_2, hsel_3, hsel_4, hsel_5, hsel_6, hsel_7, hsel_8, hset_0, hset_1, hset_2, hset_3, hset_4, hset_5, hset_6, hset_7, hset_8, hpf_s, hcl_s, hai_s, hpi_0, hpi_1, hln_0, hln_1, List.length_cons, List.length_nil, xwr_1, xwr_2, xnew_1, xnew_n, xnew_s, xnew_z, Nat.reduceLT, ite_true, and_self, hp_8_0, hp_8_1, hn_8_1, hp_8_2, hn_8_2, hp_9_0, hp_9_1, hp_9_2, hp_9_3, hp_9_4, hp_9_5, hn_9_5, hp_9_6, hn_9_6, hp_9_7, hn_9_7, hp_10_0, hp_10_1, hp_10_2, hn_10_2, hp_10_3, hn_10_3, hp_11_0, hp_12_0, hn_12_0, hp_12_1, hp_12_2, hp_12_3, hp_12_4, hp_12_5, hn_12_5, hp_12_6, hn_12_6, hp_12_7, hp_12_8, hp_13_0, hn_13_0, hp_13_1, hp_13_2, hp_13_3, hp_14_0, hn_14_0, hp_14_1, hp_14_2, hp_14_3, xdef_8, xdef_9, xdef_10, xdef_11, xdef_12, xdef_13, xdef_14, Gk_v, Gk_n, xcat_nil, xcat_i, xcat_r, xcat_l, xcat_d, Nat.zero_le, Nat.reduceAdd, Nat.reduceLeDiff, true_and, and_true, ykl_i, ykl_r, ykl_n, ykl_l]
        rw [← e1]
    · rw [h3 j]
      by_cases q1 : 1 ≤ j ∧ j ≤ m
      · rw [if_pos q1, if_pos (by omega), va_up_ne _ _ (by omega)]
      · rw [if_neg q1]
        by_cases q2 : j = m + 1
        · subst q2
          rw [va_up_self, if_pos (by omega), Nat.add_sub_cancel]
        · rw [va_up_ne _ _ q2, if_neg (by omega)]
/-- the state at the loop's head -/
def pLw (M bf sl : Nat) (σ : xS) (y s : Nat) : Prop :=
  ∃ lo hi R cv dn en D k E s0 s1 eo en1, pWo M s lo hi σ R cv dn en D k E s0 s1 eo en1 D ∧ (pRw M lo hi bf sl σ y E s0 s1 ∧ k = min 8 (y + 1))
/-- the end of a round -/
theorem l_244_t {ch : Bool} (A : pAf M bf sl σ pv y D k E ch s) (hk : k = min 8 (y + 1)) (hr : σ.2.1.1 + 400 < 890000) (H : ∀ τ y', y' ≤ y + 1 → pLw M bf sl τ y' s → pFb 300 900 σ τ → ∀ (l11 l12 l13 l14 l15 l16 l17 l18 l19 l20 l21 l22 l23 l24 l25 l26 l27 l28 l29 l30 l31 l32 : Option Value), G (d + 60) 244 130 [some (.ref 1000000), some (.int 1), some (.int i2), some (.ref 0), some (.ref 160), some (.ref 161), some (.ref s), some (.ref bf), some (.ref sl), some (.int (yI y')), some (.int (yI (n + 1))), l11, l12, l13, l14, l15, l16, l17, l18, l19, l20, l21, l22, l23, l24, l25, l26, l27, l28, l29, l30, l31, l32] [] τ Q) : G (d + 60) 244 570 [some (.ref 1000000), some (.int 1), some (.int i2), some (.ref 0), some (.ref 160), some (.ref 161), some (.ref s), some (.ref bf), some (.ref sl), some (.int (yI y)), some (.int (yI n)), some (.ref pv), some (.int (yb ch)), l13, l14, l15, l16, l17, l18, l19, l20, l21, l22, l23, l24, l25, l26, l27, l28, l29, l30, l31, l32] [] σ Q := by
  obtain ⟨lo, hi, R, cv, dn, en, D1, k1, E1, s0, s1, eo1, en1, W, K, PV, hch⟩ := A
  have fin : ∀ (σ2 : xS) y', y' ≤ y + 1 → pWo M s lo hi σ2 R cv dn en D1 k1 E1 s0 s1 eo1 en1 D1 → pRw M lo hi bf sl σ2 y' E1 s0 s1 → k1 = min 8 (y' + 1) → pFb 0 0 σ σ2 → ∀ (l12 l13 l14 l15 l16 l17 l18 l19 l20 l21 l22 l23 l24 l25 l26 l27 l28 l29 l30 l31 l32 : Option Value), G (d + 60) 244 591 [some (.ref 1000000), some (.int 1), some (.int i2), some (.ref 0), some (.ref 160), some (.ref 161), some (.ref s), some (.ref bf), some (.ref sl), some (.int (yI y')), some (.int (yI n)), some (.ref pv), l12, l13, l14, l15, l16, l17, l18, l19, l20, l21, l22, l23, l24, l25, l26, l27, l28, l29, l30, l31, l32] [] σ2 Q := by
    intro σ2 y' hy' W2 K2 hk2 Fb l12 l13 l14 l15 l16 l17 l18 l19 l20 l21 l22 l23 l24 l25 l26 l27 l28 l29 l30 l31 l32
    obtain ⟨τ, g, W3, F3⟩ := W2.agree (d := d + 52) (by have := Fb.1.2; omega)
    have g' : Ra (d + 59) 209 [.ref 0, .ref s] σ2 (.inl (some (.int 1))) τ := g
    have z : yI n + 1 = yI (n + 1) := yI_add
    simp only [s_244_591, s_244_592, s_244_593, s_244_594, s_244_595, s_244_596, s_244_597, s_244_598, s_244_599, s_244_600, s_244_601, s_244_602, g' _, z, show ¬ (1 : Int32) = 0 from by decide, if_false, Gk_v, Gk_n, xcat_nil, xcat_i, xcat_r, xcat_l, xcat_d, Nat.zero_le, Nat.reduceAdd, Nat.reduceLeDiff, true_and, and_true, ykl_i, ykl_r, ykl_n, ykl_l]
    exact H τ y' hy' ⟨lo, hi, R, cv, dn, en, D1, k1, E1, s0, s1, eo1, en1, W3, K2.keep W2.Z F3, hk2⟩ (pFb.mono (pFb.trans Fb F3.2.2) (by omega) (by omega)) _ _ _ _ _ _ _ _ _ _ _ _ _ _ _ _ _ _ _ _ _ _
  rcases hch with ⟨rfl, h1, h2⟩ | ⟨rfl, h1, h2⟩
  · have Z := W.Z
    have hb9 := K.1.1.1.2
    obtain ⟨l1, l2⟩ := K.lt Z
    have nco := K.nco
    have hne := K.ne
    obtain ⟨⟨hb, hnin⟩, ⟨gb, g1, g6, g2⟩, gs, g3, g4, g5⟩ := K
    have hv : ∀ j b, gb j = some b → b < 1000000 ∧ (b ≠ bf ∧ ∃ fs, σ.1 b = some (.inr (12, fs))) := fun j b q => by
      obtain ⟨X, R9, cv9, dn9, en9, lo9, hi9, ⟨S9, -⟩, -⟩ := g6 j b q
      refine ⟨S9.1.1, fun e => ?_, _, S9.1.2⟩
      have h9 := S9.1.2
      rw [e, g1] at h9
      cases h9
    obtain ⟨σ1, g', st, F1, ⟨r1, r3⟩, r2⟩ := l_244_ta (d := d) (s := s) (i2 := i2) (sl := sl) (yd := yI y) (yn := yI n) (pv := pv) (l12 := some (.int 1)) (l13 := l13) (l14 := l14) (l15 := l15) (l17 := l17) (l18 := l18) (l19 := l19) (l20 := l20) (l21 := l21) (l22 := l22) (l23 := l23) (l24 := l24) (l25 := l25) (l26 := l26) (l27 := l27) (l28 := l28) (l29 := l29) (l30 := l30) (l31 := l31) (l32 := l32) hb9 8 σ gb (Nat.le_refl _) l1 g1 hv
    have z8 : yI 8 = 8 := rfl
    rw [z8] at st
    have Z1 := pZ_F Z F1
    have n1 := F1.2.2.1
    have P1 := PV.row Z F1 nco
    have vs := P1
    obtain ⟨R9, cv9, dn9, en9, lo9, hi9, ⟨S9, -⟩, -⟩ := vs
    have v9 := S9.1.1
    have v1 := S9.1.2
    have Fw : pF (fun b => b = bf ∨ b = sl) 0 0 σ1 (xwr σ1 bf (prow 7 9 (va_up g' 0 (some pv)))) := pF_wr (by omega) (Or.inl rfl)
    obtain ⟨σ2, e2⟩ : ∃ σ2, σ2 = xwr σ1 bf (prow 7 9 (va_up g' 0 (some pv))) := ⟨_, rfl⟩
    have b2 : σ2.1 bf = some (prow 7 9 (va_up g' 0 (some pv))) := by rw [e2]; exact pwr_at
    rw [← e2] at Fw
    have F2 : pF (fun b => b = bf ∨ b = sl) (0 + 0) (0 + 0) σ σ2 := pF.trans F1 Fw (fun _ _ q => q.elim id id)
    have W2 := W.oth F2 (fun b q => by
      rcases q with rfl | rfl
      · exact ⟨hb.1.1, hnin.1⟩
      · exact ⟨hb.2.1, hnin.2⟩) nco
    have P2 := PV.row Z F2 nco
    have f2 : ∀ a X, pPk M lo hi bf sl σ a X → pPk M lo hi bf sl σ2 a X := fun a X q => q.row Z F2 nco
    have c2 : σ2.1 sl = some (prow 7 2 gs) := by rw [e2, xwr_1, if_neg (Ne.symm hne), r3 _ (Ne.symm hne), g3]
    have K2 : pRw M lo hi bf sl σ2 (y + 1) (ypush D E) s0 s1 := by
      refine ⟨⟨hb, hnin⟩, ⟨_, b2, fun j b q => ?_, fun j q1 q2 => ?_⟩, gs, c2, g4.imp f2, g5.imp f2⟩
      · by_cases hj : j = 0
        · subst hj
          rw [va_up_self] at q
          cases q
          exact ⟨D, P2⟩
        · rw [va_up_ne _ _ hj, r2 j] at q
          split at q
          · obtain ⟨X, q3⟩ := g6 _ b q
            exact ⟨X, f2 b X q3⟩
          · obtain ⟨X, q3⟩ := g6 _ b q
            exact ⟨X, f2 b X q3⟩
      · cases j with
        | zero =>
          rw [show ypush D E 0 = D from rfl]
          exact ⟨pv, va_up_self _ _ _, P2⟩
        | succ i =>
          obtain ⟨a, q3, q4⟩ := g2 i (by omega) (by omega)
          have e : ypush D E (i + 1) = E i := by
            unfold ypush
            rw [if_neg (Nat.succ_ne_zero i), Nat.add_sub_cancel]
          rw [e]
          refine ⟨a, ?_, f2 a _ q4⟩
          rw [va_up_ne _ _ (by omega), r2, if_pos (by omega), Nat.add_sub_cancel, q3]
    have z : yI y + 1 = yI (y + 1) := yI_add
    have z0 : yI 0 = 0 := rfl
    have i0 : yix 0 9 := by unfold yix; decide
    subst h2
    simp only [s_244_570, s_244_571, s_244_572, s_244_573, show yb true = 1 from rfl, show ¬ (1 : Int32) = 0 from by decide, if_false, Gk_v, Gk_n, xcat_nil, xcat_i, xcat_r, xcat_l, xcat_d, Nat.zero_le, Nat.reduceAdd, Nat.reduceLeDiff, true_and, and_true, ykl_i, ykl_r, ykl_n, ykl_l]
    rw [st]
    simp only [s_244_586, s_244_587, s_244_588, s_244_589, s_244_590, r1, v1, v9, hb9, z, i0, ycl_0, hpa_o (show (7 : Nat) = 4 ∨ 7 = 6 ∨ 7 = 7 ∨ 7 = 8 by decide) (show 12 = xofA 7 from rfl), hgf_s, hsel_0, hsel_1, hsel_2, hsel_3, hsel_4, hsel_5, hsel_6, hsel_7, hsel_8, hset_0, hset_1, hset_2, hset_3, hset_4, hset_5, hset_6, hset_7, hset_8, hpf_s, hcl_s, hai_s, hpi_0, hpi_1, hln_0, hln_1, List.length_cons, List.length_nil, xwr_1, xwr_2, xnew_1, xnew_n, xnew_s, xnew_z, Nat.reduceLT, ite_true, and_self, hp_8_0, hp_8_1, hn_8_1, hp_8_2, hn_8_2, hp_9_0, hp_9_1, hp_9_2, hp_9_3, hp_9_4, hp_9_5, hn_9_5, hp_9_6, hn_9_6, hp_9_7, hn_9_7, hp_10_0, hp_10_1, hp_10_2, hn_10_2, hp_10_3, hn_10_3, hp_11_0, hp_12_0, hn_12_0, hp_12_1, hp_12_2, hp_12_3, hp_12_4, hp_12_5, hn_12_5, hp_12_6, hn_12_6, hp_12_7, hp_12_8, hp_13_0, hn_13_0, hp_13_1, hp_13_2, hp_13_3, hp_14_0, hn_14_0, hp_14_1, hp_14_2, hp_14_3, xdef_8, xdef_9, xdef_10, xdef_11, xdef_12, xdef_13, xdef_14, Gk_v, Gk_n, xcat_nil, xcat_i, xcat_r, xcat_l, xcat_d, Nat.zero_le, Nat.reduceAdd, Nat.reduceLeDiff, true_and, and_true, ykl_i, ykl_r, ykl_n, ykl_l]
    rw [← e2]
    exact fin σ2 (y + 1) (Nat.le_refl _) W2 K2 (by omega) F2.2.2 _ _ _ _ _ _ _ _ _ _ _ _ _ _ _ _ _ _ _ _ _
  · subst h1 h2
    simp only [s_244_570, s_244_571, show yb false = 0 from rfl, if_true]
    exact fin σ y (Nat.le_succ _) W K hk ⟨⟨Nat.le_refl _, Nat.le_refl _⟩, Nat.le_refl _, rfl⟩ _ _ _ _ _ _ _ _ _ _ _ _ _ _ _ _ _ _ _ _ _
end
