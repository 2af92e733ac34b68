/-! ===== runs that end, with any question behind ===== -/
abbrev Ra (d k : Nat) (as : List Value) (σ : xS) (r : xR) (σ' : xS) : Prop := ∀ Q : xR → xS → Prop, Cl d k as σ Q ↔ Q r σ'
abbrev Ga (d k i : Nat) (ls : xL) (st : List Value) (σ : xS) (r : xR) (σ' : xS) : Prop := ∀ Q : xR → xS → Prop, G d k i ls st σ Q ↔ Q r σ'
/-- from one place on it goes on at another -/
abbrev Gg (d k i : Nat) (ls : xL) (st : List Value) (σ : xS) (i' : Nat) (ls' : xL) (st' : List Value) (σ' : xS) : Prop := ∀ Q : xR → xS → Prop, G d k i ls st σ Q ↔ G d k i' ls' st' σ' Q
/-! ===== strips: takeRow ===== -/
theorem yDok_og {D : yD} (h : yDok D) {p q : Nat} (hq : q < 40) : yDok (D.sog (upd D.og p (yI q))) := by
  refine ⟨h.n1, h.n40, h.f1, h.f6, h.fp0, h.fpm, h.fpn, ?_, h.2.2.2.2.2.2.2.2⟩
  intro k hk
  show upd D.og p (yI q) k = -1 ∨ ∃ r, r < 40 ∧ upd D.og p (yI q) k = yI r
  by_cases e : k = p
  · subst e
    exact Or.inr ⟨q, hq, yupd_same⟩
  · rw [yupd_ne e]
    exact h.ogm k hk
/-- pixel p takes color c, which is the due one of f -/
def ytkS (D : yD) (p : Nat) (c f : Int32) : yD := ((D.sfr (upd D.fr p (D.fr p + 1))).stk (upd D.tk p c)).sog (upd D.og p f)
section
variable {D : yD} {p : Nat} {c f : Int32}
theorem ytkS_n : (ytkS D p c f).n = D.n := rfl
theorem ytkS_bp : (ytkS D p c f).bp = D.bp := rfl
theorem ytkS_kd : (ytkS D p c f).kd = D.kd := rfl
theorem ytkS_pd : (ytkS D p c f).pd = D.pd := rfl
theorem ytkS_du : (ytkS D p c f).du = D.du := rfl
theorem ytkS_fr : (ytkS D p c f).fr = upd D.fr p (D.fr p + 1) := rfl
theorem ytkS_tk : (ytkS D p c f).tk = upd D.tk p c := rfl
theorem ytkS_og : (ytkS D p c f).og = upd D.og p f := rfl
theorem yDok_tkS (h : yDok D) {q : Nat} (hq : q < 40) : yDok (ytkS D p c (yI q)) := by
  have h1 := yDok_og (p := p) (yDok_stk (v := upd D.tk p c) (yDok_sfr (v := upd D.fr p (D.fr p + 1)) h)) hq
  rw [ystk_og, ysfr_og] at h1
  exact h1
theorem yV_tkS {t : yT} {o : Nat} (V : yV t o D) : yV (((t.s1 (o + 5) p (D.fr p + 1)).s1 (o + 6) p c).s1 (o + 7) p f) o (ytkS D p c f) := by
  have h1 := yV_sfr (p := p) (v := D.fr p + 1) V
  have h2 := yV_stk (p := p) (v := c) h1
  rw [ysfr_tk] at h2
  have h3 := yV_sog (p := p) (v := f) h2
  rw [ystk_og, ysfr_og] at h3
  exact h3
theorem yN_tkS {S : Nat → Int32} (N : yN S D) (hp : p < 40) : yN (upd (upd (upd S (8 + 8 * p + 3) (D.fr p + 1)) (8 + 8 * p + 4) c) (8 + 8 * p + 6) f) (ytkS D p c f) := by
  have h1 := yN_sfr (v := D.fr p + 1) N hp
  have h2 := yN_stk (v := c) h1 hp
  rw [ysfr_tk] at h2
  have h3 := yN_sog (v := f) h2 hp
  rw [ystk_og, ysfr_og] at h3
  exact h3
end
def ytk (r : Nat → Int32) : Nat → Nat → yD → yD
  | 0, _, D => D
  | n + 1, p, D => if r p < 0 then ytk r n (p + 1) D else if D.kd p = 1 then ytk r n (p + 1) (D.sfr (upd D.fr p (D.fr p + 1))) else ytk r n (p + 1) (ytkS D p (D.du (r p).toNatClampNeg) (r p))
section
variable {d o : Nat}
theorem l_54 {r : Nat → Int32} {m : Nat} (hr : ∀ p, p < m → r p = -1 ∨ ∃ q, q < 40 ∧ r p = yI q) : ∀ n p (t : yT) (D : yD) l2, yW t o D → t.A (o + 10) = r → D.n = m → p + n = m → ∃ u, Ga d 54 6 [some (.ref o), some (.int (yI p)), l2] [] (yemb t) (.inl none) (yemb u) ∧ (yW u o (ytk r n p D) ∧ yFr (fun a => a = o + 5 ∨ a = o + 6 ∨ a = o + 7) t u) := by
  intro n
  induction n with
  | zero =>
    intro p t D l2 W hrow hm hp
    have hn40 := W.ok.n40
    have h1 : yI m ≤ yI p := (yI_le (by omega) (by omega)).mpr (by omega)
    refine ⟨t, fun Q => ?_, W, yFr.rfl'⟩
    rw [s_54_6]
    simp only [s_54_0, s_54_1, s_54_2, s_54_3, s_54_4, s_54_5, s_54_7, s_54_8, s_54_9, s_54_10, s_54_11, s_54_12, s_54_13, s_54_14, s_54_15, s_54_16, s_54_17, s_54_18, s_54_19, s_54_20, s_54_21, s_54_22, s_54_23, s_54_24, s_54_25, s_54_26, s_54_27, s_54_28, s_54_29, s_54_30, s_54_31, s_54_32, s_54_33, s_54_34, s_54_35, s_54_36, s_54_37, s_54_38, s_54_39, s_54_40, s_54_41, s_54_42, s_54_43, s_54_44, s_54_45, s_54_46, W.oo, W.n, hm, h1, if_true]
  | succ n ih =>
    intro p t D l2 W hrow hm hp
    have hn40 := W.ok.n40
    have h1 : ¬ yI m ≤ yI p := fun h => absurd ((yI_le (by omega) (by omega)).mp h) (by omega)
    have h2 : yix (yI p) 40 := yix_I (by omega) (by omega)
    have h3 : (yI p).toNatClampNeg = p := yI_clamp (by omega)
    have h4 : yI p + 1 = yI (p + 1) := yI_add
    rcases hr p (by omega) with hq | ⟨q, hq, hrq⟩
    · have hneg : r p < 0 := by
        rw [hq]
        decide
      obtain ⟨u, hu, Wu, Fu⟩ := ih (p + 1) t D (some (.int (r p))) W hrow hm (by omega)
      refine ⟨u, fun Q => ?_, ?_, Fu⟩
      · rw [s_54_6]
        simp only [s_54_0, s_54_1, s_54_2, s_54_3, s_54_4, s_54_5, s_54_7, s_54_8, s_54_9, s_54_10, s_54_11, s_54_12, s_54_13, s_54_14, s_54_15, s_54_16, s_54_17, s_54_18, s_54_19, s_54_20, s_54_21, s_54_22, s_54_23, s_54_24, s_54_25, s_54_26, s_54_27, s_54_28, s_54_29, s_54_30, s_54_31, s_54_32, s_54_33, s_54_34, s_54_35, s_54_36, s_54_37, s_54_38, s_54_39, s_54_40, s_54_41, s_54_42, s_54_43, s_54_44, s_54_45, s_54_46, W.oo, W.n, hm, h1, if_false, yAs_10 W.oo, yns_10 W.oo, h2, h3, true_and, hrow, hneg, if_true, ykl_i, ykl_r, h4, hu]
      · rw [ytk, if_pos hneg]
        exact Wu
    · have hneg : ¬ r p < 0 := by
        rw [hrq]
        exact yI_nneg (by omega)
      have W1 : yW (t.s1 (o + 5) p (D.fr p + 1)) o (D.sfr (upd D.fr p (D.fr p + 1))) := ⟨yDok_sfr W.ok, yV_sfr W.v⟩
      have hrow1 : (t.s1 (o + 5) p (D.fr p + 1)).A (o + 10) = r := by
        rw [ys1_ne (by omega)]
        exact hrow
      have hk1 : (t.s1 (o + 5) p (D.fr p + 1)).A (o + 3) p = D.kd p := W1.kd p (by omega)
      by_cases hk : D.kd p = 1
      · obtain ⟨u, hu, Wu, Fu⟩ := ih (p + 1) _ _ (some (.int (r p))) W1 hrow1 hm (by omega)
        refine ⟨u, fun Q => ?_, ?_, (yFr_s1 (P := fun a => a = o + 5) rfl).trans Fu (fun a h => by omega)⟩
        · rw [s_54_6]
          simp only [s_54_0, s_54_1, s_54_2, s_54_3, s_54_4, s_54_5, s_54_7, s_54_8, s_54_9, s_54_10, s_54_11, s_54_12, s_54_13, s_54_14, s_54_15, s_54_16, s_54_17, s_54_18, s_54_19, s_54_20, s_54_21, s_54_22, s_54_23, s_54_24, s_54_25, s_54_26, s_54_27, s_54_28, s_54_29, s_54_30, s_54_31, s_54_32, s_54_33, s_54_34, s_54_35, s_54_36, s_54_37, s_54_38, s_54_39, s_54_40, s_54_41, s_54_42, s_54_43, s_54_44, s_54_45, s_54_46, W.oo, W.n, hm, h1, if_false, yAs_10 W.oo, yns_10 W.oo, yAs_5 W.oo, yns_5 W.oo, yAs_3 W.oo, yns_3 W.oo, h2, h3, true_and, hrow, hneg, W.fr p (show p < 40 by omega), hk1, hk, if_true, ykl_i, ykl_r, h4, hu]
        · rw [ytk, if_neg hneg, if_pos hk]
          exact Wu
      · have hrow3 : (((t.s1 (o + 5) p (D.fr p + 1)).s1 (o + 6) p (D.du (r p).toNatClampNeg)).s1 (o + 7) p (r p)).A (o + 10) = r := by
          rw [ys1_ne (by omega), ys1_ne (by omega)]
          exact hrow1
        have W3 : yW (((t.s1 (o + 5) p (D.fr p + 1)).s1 (o + 6) p (D.du (r p).toNatClampNeg)).s1 (o + 7) p (r p)) o (ytkS D p (D.du (r p).toNatClampNeg) (r p)) := by
          refine ⟨?_, yV_tkS W.v⟩
          have h := yDok_tkS (p := p) (c := D.du (r p).toNatClampNeg) W.ok hq
          rw [← hrq] at h
          exact h
        have h5 : yix (r p) 40 := by
          rw [hrq]
          exact yix_I (by omega) (by omega)
        have h6 : (r p).toNatClampNeg < 40 := by
          rw [hrq, yI_clamp (by omega)]
          exact hq
        have hd1 : (t.s1 (o + 5) p (D.fr p + 1)).A (o + 2) (r p).toNatClampNeg = D.du (r p).toNatClampNeg := W1.du _ h6
        obtain ⟨u, hu, Wu, Fu⟩ := ih (p + 1) _ _ (some (.int (r p))) W3 hrow3 hm (by omega)
        refine ⟨u, fun Q => ?_, ?_, ?_⟩
        · rw [s_54_6]
          simp only [s_54_0, s_54_1, s_54_2, s_54_3, s_54_4, s_54_5, s_54_7, s_54_8, s_54_9, s_54_10, s_54_11, s_54_12, s_54_13, s_54_14, s_54_15, s_54_16, s_54_17, s_54_18, s_54_19, s_54_20, s_54_21, s_54_22, s_54_23, s_54_24, s_54_25, s_54_26, s_54_27, s_54_28, s_54_29, s_54_30, s_54_31, s_54_32, s_54_33, s_54_34, s_54_35, s_54_36, s_54_37, s_54_38, s_54_39, s_54_40, s_54_41, s_54_42, s_54_43, s_54_44, s_54_45, s_54_46, W.oo, W.n, hm, h1, if_false, yAs_10 W.oo, yns_10 W.oo, yAs_5 W.oo, yns_5 W.oo, yAs_3 W.oo, yns_3 W.oo, yAs_6 W.oo, yns_6 W.oo, yAs_7 W.oo, yns_7 W.oo, yAs_2 W.oo, yns_2 W.oo, h2, h3, h5, true_and, hrow, hneg, W.fr p (show p < 40 by omega), hk1, hd1, hk, ykl_i, ykl_r, h4, hu]
        · rw [ytk, if_neg hneg, if_neg hk]
          exact Wu
        · exact ((yFr_s1 (P := fun a => a = o + 5) rfl).trans ((yFr_s1 (P := fun a => a = o + 6) rfl).trans ((yFr_s1 (P := fun a => a = o + 7) rfl).trans Fu (P'' := fun a => a = o + 5 ∨ a = o + 6 ∨ a = o + 7) (fun a h => by omega)) (P'' := fun a => a = o + 5 ∨ a = o + 6 ∨ a = o + 7) (fun a h => by omega)) (fun a h => by omega))
end
/-! ===== strips: takeRow whole ===== -/
theorem yrw_lo {D : yD} {b : Nat → Bool} : ∀ n p first r k, k < p → yrw D b n p first r k = r k := by
  intro n
  induction n with
  | zero => intro p first r k _; rfl
  | succ n ih =>
    intro p first r k hk
    simp only [yrw]
    split
    · split
      · rw [ih _ _ _ _ (by omega), yupd_ne (by omega)]
      · rw [ih _ _ _ _ (by omega), yupd_ne (by omega), yupd_ne (by omega)]
    · rw [ih _ _ _ _ (by omega), yupd_ne (by omega)]
theorem yrw_val {D : yD} {b : Nat → Bool} (hn : D.n ≤ 40) : ∀ n p first r k, p ≤ k → k < p + n → (yrw D b n p first r k = -1 ∨ ∃ q, q < 40 ∧ yrw D b n p first r k = yI q) := by
  intro n
  induction n with
  | zero => intro p first r k h1 h2; omega
  | succ n ih =>
    intro p first r k h1 h2
    simp only [yrw]
    by_cases e : k = p
    · subst e
      split
      · rename_i hf
        split
        · left
          rw [yrw_lo _ _ _ _ _ (by omega), yupd_same]
        · right
          refine ⟨first, by omega, ?_⟩
          rw [yrw_lo _ _ _ _ _ (by omega), yupd_same]
      · left
        rw [yrw_lo _ _ _ _ _ (by omega), yupd_same]
    · split
      · split <;> exact ih _ _ _ _ (by omega) (by omega)
      · exact ih _ _ _ _ (by omega) (by omega)
theorem yrw_any {D : yD} {b : Nat → Bool} : ∀ n p first r r' k, p ≤ k → k < p + n → yrw D b n p first r k = yrw D b n p first r' k := by
  intro n
  induction n with
  | zero => intro p first r r' k h1 h2; omega
  | succ n ih =>
    intro p first r r' k h1 h2
    simp only [yrw]
    by_cases e : k = p
    · subst e
      split
      · split
        · rw [yrw_lo _ _ _ _ _ (by omega), yrw_lo _ _ _ _ _ (by omega), yupd_same, yupd_same]
        · rw [yrw_lo _ _ _ _ _ (by omega), yrw_lo _ _ _ _ _ (by omega), yupd_same, yupd_same]
      · rw [yrw_lo _ _ _ _ _ (by omega), yrw_lo _ _ _ _ _ (by omega), yupd_same, yupd_same]
    · split
      · split <;> exact ih _ _ _ _ _ (by omega) (by omega)
      · exact ih _ _ _ _ _ (by omega) (by omega)
theorem ytk_congr {r r' : Nat → Int32} : ∀ n p D, (∀ k, p ≤ k → k < p + n → r k = r' k) → ytk r n p D = ytk r' n p D := by
  intro n
  induction n with
  | zero => intro p D _; rfl
  | succ n ih =>
    intro p D h
    have h0 := h p (Nat.le_refl _) (by omega)
    simp only [ytk, h0]
    split
    · exact ih _ _ (fun k h1 h2 => h k (by omega) (by omega))
    · split <;> exact ih _ _ (fun k h1 h2 => h k (by omega) (by omega))
/-- the row that is sent with the set b left out -/
def yrow (D : yD) (b : Nat → Bool) : Nat → Int32 := ysent D b (fun _ => 0)
theorem yrow_eq {D : yD} {b : Nat → Bool} {r : Nat → Int32} {p : Nat} (hp : p < D.n) : ysent D b r p = yrow D b p := yrw_any D.n 0 _ _ _ p (Nat.zero_le _) (by omega)
theorem yrow_val {D : yD} {b : Nat → Bool} (hn : D.n ≤ 40) {p : Nat} (hp : p < D.n) : yrow D b p = -1 ∨ ∃ q, q < 40 ∧ yrow D b p = yI q := yrw_val hn D.n 0 _ _ p (Nat.zero_le _) (by omega)
def ytaken (D : yD) : yD := ytk (yrow D D.bp) D.n 0 D
section
variable {d o : Nat} {D : yD} {t : yT}
theorem m_54 (W : yW t o D) : ∃ u, Ra (d + 3) 54 [.ref o] (yemb t) (.inl none) (yemb u) ∧ (yW u o (ytaken D) ∧ yFr (fun a => a = o + 5 ∨ a = o + 6 ∨ a = o + 7 ∨ a = o + 10) t u) := by
  have hn40 := W.ok.n40
  have W1 : yW (t.sA (o + 10) (ysent D D.bp (t.A (o + 10)))) o D := yW_fr W (yFr_sA (P := fun a => a = o + 10) rfl) (fun a _ _ (h : a = o + 10) => by omega)
  have hr : ∀ p, p < D.n → ysent D D.bp (t.A (o + 10)) p = -1 ∨ ∃ q, q < 40 ∧ ysent D D.bp (t.A (o + 10)) p = yI q := fun p hp => yrw_val hn40 D.n 0 _ _ p (Nat.zero_le _) (by omega)
  obtain ⟨u, hu, Wu, Fu⟩ := l_54 (d := d + 3) hr D.n 0 _ D none W1 ysA_same rfl (Nat.zero_add _)
  refine ⟨u, fun Q => ?_, ?_, (yFr_sA (P := fun a => a = o + 10) rfl).trans Fu (fun a h => by omega)⟩
  · show G (d + 3) 54 0 [some (.ref o), none, none] [] (yemb t) Q ↔ _
    simp only [s_54_0, s_54_1, s_54_2 W.oo, s_54_3 W.oo, s_54_4, s_54_5, m_55 W W.bp, Gk_n, xcat_nil, Nat.zero_le, Nat.reduceAdd, true_and, ykl_r, ykl_n]
    exact hu Q
  · have e : ytaken D = ytk (ysent D D.bp (t.A (o + 10))) D.n 0 D := ytk_congr _ _ _ (fun k _ h2 => (yrow_eq (by omega)).symm)
    rw [e]
    exact Wu
end
