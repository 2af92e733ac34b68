theorem yix_I' {n m : Nat} (h : n < m) (h2 : n < 2147483648) : yix (yI n) m := by
  unfold yix
  rw [yI_clamp h2]
  rintro (h1 | h1)
  · exact yI_nneg h2 h1
  · omega
theorem xc_r1 {z : Nat} : xcat [.ref z] ≤ 8 := Nat.le_of_ble_eq_true rfl
/-! ===== the model's rows are copied ===== -/
theorem yN_cong {S S' : Nat → Int32} {D : yD} (h : yDok D) (N : yN S D) (hS : ∀ j, j < 1540 → S' j = S j) : yN S' D := by
  have h6 := h.f6
  have hc := h.cok.1
  have hq := fun i => ycp_le (g := D.cg) i
  refine ⟨?_, ?_, ?_, ?_, ?_, ?_, ?_, ?_, ?_, ?_, ?_, ?_, ?_, ?_, ?_, ?_, ?_, ?_, ?_⟩
  · rw [hS _ (by omega)]; exact N.n
  · rw [hS _ (by omega)]; exact N.un
  · rw [hS _ (by omega)]; exact N.lv
  · rw [hS _ (by omega)]; exact N.f
  · rw [hS _ (by omega)]; exact N.sh
  · rw [hS _ (by omega)]; exact N.ac
  · rw [hS _ (by omega)]; exact N.hc
  · rw [hS _ (by omega)]; exact N.nc
  · intro p hp; rw [hS _ (by omega)]; exact N.kd p hp
  · intro p hp; rw [hS _ (by omega)]; exact N.pd p hp
  · intro p hp; rw [hS _ (by omega)]; exact N.fr p hp
  · intro p hp; rw [hS _ (by omega)]; exact N.tk p hp
  · intro p hp; rw [hS _ (by omega)]; exact N.du p hp
  · intro p hp; rw [hS _ (by omega)]; exact N.og p hp
  · intro p hp; rw [hS _ (by omega)]; exact N.fm p hp
  · intro p hp; rw [hS _ (by omega)]; exact N.bp p hp
  · intro g hg
    have hg1 : g < D.f := hg
    rw [hS _ (by omega)]; exact N.fp g hg
  · intro g hg
    have hg1 : g < D.f := hg
    rw [hS _ (by omega)]; exact N.fl g hg
  · intro i hi
    have hi1 : i < D.cn := hi
    have h1 := hq i
    rw [hS _ (by omega), hS _ (by omega)]
    exact N.cc i hi
theorem yM_cong {S S' : Nat → Int32} {D : yD} (M : yM S D) (hS : ∀ j, j < 1540 → S' j = S j) : yM S' D := ⟨M.ok, yN_cong M.ok M.v hS⟩
section
variable {d : Nat}
end
/-! ===== what is kept between calls, the class's half and the model's ===== -/
abbrev yH1 (t : yT) (k w : Nat) (E : Nat → yD) : Prop := (k ≤ 8 ∧ w < 8) ∧ ((t.A 38 1 = yI k ∧ t.A 38 2 = yI w) ∧ ∀ j, j < k → yW t (40 + 12 * ((w + 8 - j) % 8)) (E j))
abbrev yH2 (t : yT) (k : Nat) (E : Nat → yD) : Prop := k ≤ 8 ∧ (t.A 160 16 = yI k ∧ ∀ j, j < k → yM (t.A (167 + (k - 1 - j))) (E j))
def ypush (D : yD) (E : Nat → yD) (j : Nat) : yD := if j = 0 then D else E (j - 1)
theorem yO_h {w : Nat} (h : w < 8) : yisO 4 (40 + 12 * w) := by
  match w, h with
  | 0, _ => exact yO_40
  | 1, _ => exact yO_52
  | 2, _ => exact yO_64
  | 3, _ => exact yO_76
  | 4, _ => exact yO_88
  | 5, _ => exact yO_100
  | 6, _ => exact yO_112
  | 7, _ => exact yO_124
theorem yla_39 : yla 39 = .refs 4 8 (fun j => if j < 8 then some (40 + 12 * j) else none) := rfl
section
variable {d : Nat}
theorem gs_a39 {k i pc w : Nat} {aux : List Int} {ls : xL} {r : List Value} {t : yT} {Q : xR → xS → Prop} (hf : ft k i = some (pc, .aaload, aux)) (hw : w < 8) : G d k i ls (.int (yI w) :: .ref 39 :: r) (yemb t) Q ↔ G d k (i + 1) ls (.ref (40 + 12 * w) :: r) (yemb t) Q := by
  refine gs_aald hf (Or.inl rfl) yla_39 (by decide) (yix_I hw (by decide)) ?_ (by omega)
  rw [yI_clamp (by omega)]
  exact if_pos hw
theorem m_6 {t : yT} {D : yD} {k w : Nat} {E : Nat → yD} (W : yW t 7 D) (H : yH1 t k w E) : ∃ u, Ra (d + 1) 6 [.ref 38, .ref 7] (yemb t) (.inl none) (yemb u) ∧ (yH1 u (min 8 (k + 1)) ((w + 1) % 8) (ypush D E) ∧ yFr (fun a => a = 38 ∨ (40 ≤ a ∧ a < 136)) t u) := by
  obtain ⟨⟨hk, hw⟩, ⟨h1, h2⟩, hE⟩ := H
  have hw' : (w + 1) % 8 < 8 := Nat.mod_lt _ (by decide)
  have F1 : yFr (fun a => a = 38) t (t.s1 38 2 (yI ((w + 1) % 8))) := yFr_s1 rfl
  have W1 : yW (t.s1 38 2 (yI ((w + 1) % 8))) 7 D := yW_fr W F1 (fun a _ _ (h : a = 38) => by omega)
  obtain ⟨u1, hu1, Wu1, F2⟩ := m_31' (d := d) W1 (yO_h hw') (by omega)
  have hk1 : u1.A 38 1 = yI k := by
    rw [F2.A (by omega), ys1_upd, yupd_ne (by decide)]
    exact h1
  have hw1 : u1.A 38 2 = yI ((w + 1) % 8) := by
    rw [F2.A (by omega), ys1_upd, yupd_same]
  have e1 : yI w + 1 = yI (w + 1) := yI_add
  have e2 : yI (w + 1) - yI (w + 1) / 8 * 8 = yI ((w + 1) % 8) := yI_rem (n := 8) (by omega) (by decide)
  have e3 : yI k + 1 = yI (k + 1) := yI_add
  have e4 : (if yI (k + 1) < 8 then yI (k + 1) else 8) = yI (min 8 (k + 1)) := by
    rw [show (8 : Int32) = yI 8 from rfl]
    by_cases h : k + 1 < 8
    · rw [if_pos ((yI_lt (m := 8) (by omega) (by decide)).mpr h), Nat.min_eq_right (by omega)]
    · rw [if_neg (fun h' => h ((yI_lt (m := 8) (by omega) (by decide)).mp h')), Nat.min_eq_left (by omega)]
  refine ⟨u1.s1 38 1 (yI (min 8 (k + 1))), fun Q => ?_, ⟨⟨by omega, hw'⟩, ⟨by rw [ys1_upd, yupd_same], by rw [ys1_upd, yupd_ne (by decide)]; exact hw1⟩, ?_⟩, ?_⟩
  · show G (d + 1) 6 0 [some (.ref 38), some (.ref 7)] [] (yemb t) Q ↔ _
    simp only [s_6_0, s_6_1, s_6_2, s_6_3, s_6_4, s_6_5, s_6_6, s_6_7, s_6_8, s_6_9, s_6_10, s_6_11, s_6_13, s_6_14, s_6_15, s_6_16, s_6_17, s_6_18, s_6_19, s_6_20, s_6_22, s_6_23, s_6_21 xc_r1, yO_38, h2, e1, show ¬ (8 : Int32) = 0 from by decide, not_false_eq_true, e2, ys1_same, gs_a39 f_6_12 hw', yO_h hw', hu1, hk1, e3, e4, Gk_v, Gk_n, xcat_nil, xcat_i, xcat_r, xcat_l, xcat_d, Nat.zero_le, Nat.reduceAdd, Nat.reduceLeDiff, true_and, and_true, ykl_i, ykl_r, ykl_n, ykl_l]
  · intro j hj
    have F3 : yFr (fun a => a = 38) u1 (u1.s1 38 1 (yI (min 8 (k + 1)))) := yFr_s1 rfl
    unfold ypush
    by_cases e : j = 0
    · subst e
      rw [if_pos rfl, show ((w + 1) % 8 + 8 - 0) % 8 = (w + 1) % 8 by omega]
      exact yW_fr Wu1 F3 (fun a _ _ (h : a = 38) => by omega)
    · rw [if_neg e, show ((w + 1) % 8 + 8 - j) % 8 = (w + 8 - (j - 1)) % 8 by omega]
      have hq := hE (j - 1) (by omega)
      have Wa := yW_fr hq F1 (fun a _ _ (h : a = 38) => by omega)
      have Wb := yW_fr Wa F2 (fun a h1 h2 (h : 40 + 12 * ((w + 1) % 8) ≤ a ∧ a ≤ 40 + 12 * ((w + 1) % 8) + 9) => by omega)
      exact yW_fr Wb F3 (fun a _ _ (h : a = 38) => by omega)
  · exact (F1.trans F2 (P'' := fun a => a = 38 ∨ (40 ≤ a ∧ a < 136)) (fun a h => by omega)).trans (yFr_s1 (P := fun a => a = 38) rfl) (fun a h => by omega)
theorem m_7 {t : yT} {D : yD} {k w : Nat} {E : Nat → yD} (W : yW t 7 D) (H : yH1 t k w E) : (k = 0 → Ra (d + 1) 7 [.ref 38, .ref 7] (yemb t) (.inl (some (.int (-1)))) (yemb t)) ∧ (1 ≤ k → ∃ u, Ra (d + 1) 7 [.ref 38, .ref 7] (yemb t) (.inl (some (.int (yI (k - 1))))) (yemb u) ∧ ((yW u 7 (E 0) ∧ yH1 u (k - 1) ((w + 8 - 1) % 8) (fun j => E (j + 1))) ∧ yFr (fun a => a = 38 ∨ (7 ≤ a ∧ a ≤ 16)) t u)) := by
  obtain ⟨⟨hk, hw⟩, ⟨h1, h2⟩, hE⟩ := H
  constructor
  · intro h0 Q
    have h0' : t.A 38 1 = 0 := by
      rw [h1, h0]
      rfl
    show G (d + 1) 7 0 [some (.ref 38), some (.ref 7)] [] (yemb t) Q ↔ _
    simp only [s_7_0, s_7_1, s_7_2, s_7_3, s_7_4, s_7_5, s_7_6, s_7_7, s_7_8, s_7_9, s_7_11, s_7_12, s_7_13, s_7_14, s_7_15, s_7_16, s_7_17, s_7_18, s_7_19, s_7_20, s_7_21, s_7_22, s_7_23, s_7_23i, s_7_24, s_7_25, s_7_26, s_7_27, s_7_28, s_7_29, s_7_30, yO_38, h0', ne_eq, not_true_eq_false, if_false, Gk_v, Gk_n, xcat_nil, xcat_i, xcat_r, xcat_l, xcat_d, Nat.zero_le, Nat.reduceAdd, Nat.reduceLeDiff, true_and, and_true, ykl_i, ykl_r, ykl_n, ykl_l]
  · intro hk1
    have h0' : ¬ yI k = 0 := fun h => absurd ((yI_inj (m := 0) (by omega) (by omega)).mp h) (by omega)
    have We := hE 0 hk1
    rw [show (w + 8 - 0) % 8 = w by omega] at We
    obtain ⟨u1, hu1, Wu1, F1⟩ := m_31' (d := d) We yO_7 (by omega)
    have hk2 : u1.A 38 1 = yI k := by
      rw [F1.A (by omega)]
      exact h1
    have hw2 : u1.A 38 2 = yI w := by
      rw [F1.A (by omega)]
      exact h2
    have e1 : yI w + 8 = yI (w + 8) := yI_add
    have e2 : yI (w + 8) - 1 = yI (w + 8 - 1) := yI_sub1 (by omega)
    have e3 : yI (w + 8 - 1) - yI (w + 8 - 1) / 8 * 8 = yI ((w + 8 - 1) % 8) := yI_rem (n := 8) (by omega) (by decide)
    have e4 : yI k - 1 = yI (k - 1) := yI_sub1 hk1
    have hk3 : (u1.s1 38 2 (yI ((w + 8 - 1) % 8))).A 38 1 = yI k := by
      rw [ys1_upd, yupd_ne (by decide)]
      exact hk2
    refine ⟨(u1.s1 38 2 (yI ((w + 8 - 1) % 8))).s1 38 1 (yI (k - 1)), fun Q => ?_, ⟨?_, ⟨⟨by omega, Nat.mod_lt _ (by decide)⟩, ⟨by rw [ys1_upd, yupd_same], by rw [ys1_upd, yupd_ne (by decide), ys1_upd, yupd_same]⟩, ?_⟩⟩, ?_⟩
    · show G (d + 1) 7 0 [some (.ref 38), some (.ref 7)] [] (yemb t) Q ↔ _
      simp only [s_7_0, s_7_1, s_7_2, s_7_3, s_7_4, s_7_5, s_7_6, s_7_7, s_7_8, s_7_9, s_7_11, s_7_12, s_7_13, s_7_14, s_7_15, s_7_16, s_7_17, s_7_18, s_7_19, s_7_20, s_7_21, s_7_22, s_7_23, s_7_23i, s_7_24, s_7_25, s_7_26, s_7_27, s_7_28, s_7_29, s_7_30, yO_38, yO_7, h1, h0', h2, ne_eq, not_false_eq_true, if_true, gs_a39 f_7_10 hw, hu1, hw2, e1, e2, show ¬ (8 : Int32) = 0 from by decide, e3, hk3, e4, ys1_same, Gk_v, Gk_n, xcat_nil, xcat_i, xcat_r, xcat_l, xcat_d, Nat.zero_le, Nat.reduceAdd, Nat.reduceLeDiff, true_and, and_true, ykl_i, ykl_r, ykl_n, ykl_l]
    · exact yW_fr (yW_fr Wu1 (yFr_s1 (P := fun a => a = 38) rfl) (fun a _ _ (h : a = 38) => by omega)) (yFr_s1 (P := fun a => a = 38) rfl) (fun a _ _ (h : a = 38) => by omega)
    · intro j hj
      rw [show ((w + 8 - 1) % 8 + 8 - j) % 8 = (w + 8 - (j + 1)) % 8 by omega]
      have Wa := yW_fr (hE (j + 1) (by omega)) F1 (fun a h1 h2 (h : 7 ≤ a ∧ a ≤ 7 + 9) => by omega)
      exact yW_fr (yW_fr Wa (yFr_s1 (P := fun a => a = 38) rfl) (fun a _ _ (h : a = 38) => by omega)) (yFr_s1 (P := fun a => a = 38) rfl) (fun a _ _ (h : a = 38) => by omega)
    · exact (F1.trans (yFr_s1 (P := fun a => a = 38) rfl) (P'' := fun a => a = 38 ∨ (7 ≤ a ∧ a ≤ 16)) (fun a h => by omega)).trans (yFr_s1 (P := fun a => a = 38) rfl) (fun a h => by omega)
end
