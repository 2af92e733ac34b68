/-! ===== the greatest level ===== -/
theorem ycN_ex {un c : Int32} (h : ∃ u, (1 ≤ u ∧ u ≤ 100) ∧ un = yI u) : ∃ m, m ≤ 100 ∧ ycur un c = yI m := by
  obtain ⟨u, hu, e⟩ := h
  obtain ⟨r, hr, er⟩ := yand255 (c >>> ((16 : Int32) &&& 31))
  obtain ⟨g, hg, eg⟩ := yand255 (c >>> ((8 : Int32) &&& 31))
  obtain ⟨b, hb, eb⟩ := yand255 c
  have h1 : (r + g + b) * u ≤ 765 * 100 := Nat.mul_le_mul (by omega) (by omega)
  refine ⟨(r + g + b) * u / 765, by omega, ?_⟩
  unfold ycur
  rw [er, eg, eb, e, yI_add, yI_add, yI_mul, show (765 : Int32) = yI 765 from rfl, yI_div (by omega) (by omega)]
def ycN (D : yD) (c : Int32) : Nat := (ycur D.un c).toNatClampNeg
theorem ycN_eq {D : yD} (h : yDok D) (c : Int32) : ycur D.un c = yI (ycN D c) ∧ ycN D c ≤ 100 := by
  obtain ⟨m, hm, e⟩ := ycN_ex (c := c) h.unu
  have : ycN D c = m := by
    unfold ycN
    rw [e, yI_clamp (by omega)]
  rw [this]
  exact ⟨e, hm⟩
/-- the load of pixels p .. at level l -/
def ylsum (D : yD) (l : Nat) : Nat → Nat → Nat → Nat
  | 0, _, a => a
  | m + 1, p, a => ylsum D l m (p + 1) (if ylit D p = true then a + ycN D (ydueC D.cn D.cg l (D.fm p)) else a)
theorem ylsum_ge {D : yD} {l : Nat} : ∀ m p a, a ≤ ylsum D l m p a := by
  intro m
  induction m with
  | zero => intro p a; exact Nat.le_refl _
  | succ m ih =>
    intro p a
    rw [ylsum]
    refine Nat.le_trans ?_ (ih (p + 1) _)
    split <;> omega
def ywith (D : yD) (l g : Nat) : Bool := decide (ylsum D l (ylast D g + 1 - D.fp g) (D.fp g) 0 ≤ (D.fl g).toNatClampNeg)
def yall (D : yD) (l : Nat) : Nat → Nat → Bool
  | 0, _ => true
  | m + 1, g => if ywith D l g = true then yall D l m (g + 1) else false
def ygl (D : yD) : Nat → Int32
  | 0 => -1
  | c + 1 => if yall D c D.f 0 = true then yI c else ygl D c
section
variable {d : Nat} {t : yT} {D : yD} {k : Nat} {E : Nat → yD} {s0 s1 : Option yD} {n : Nat} {B : Nat → Nat} {eo en : Int32}
theorem l_51i {o l g lim : Nat} (hl : l < 256) (hg : g < D.f) (hlim : lim < 10000) (hfl : D.fl g = yI lim) : ∀ m i a (t : yT), yW t o D → yDm t D.cn D.cg l → i + m = ylast D g + 1 → a ≤ 100 * i → ∃ (u : yT) (a' : Nat) (l4 : Option Value), Gg (d + 3) 51 13 [some (.ref o), some (.ref 3), some (.int (yI g)), some (.int (yI a)), some (.int (yI i))] [] (yemb t) 41 [some (.ref o), some (.ref 3), some (.int (yI g)), some (.int (yI a')), l4] [] (yemb u) ∧ (((lim < a' ↔ lim < ylsum D l m i a) ∧ a' ≤ 4100) ∧ (yDm u D.cn D.cg l ∧ yFr (fun a => a = 4 ∨ a = 5) t u)) := by
  intro m
  induction m with
  | zero =>
    intro i a t W K hi ha
    have hn40 := W.ok.n40
    have hln := ylast_lt W.ok hg
    have h1 : yI (ylast D g) < yI i := (yI_lt (by omega) (by omega)).mpr (by omega)
    refine ⟨t, a, some (.int (yI i)), fun Q => ?_, ⟨Iff.rfl, by omega⟩, K, yFr.rfl'⟩
    rw [s_51_13]
    simp only [s_51_0, s_51_1, s_51_2, s_51_3, s_51_4, s_51_5, s_51_6, s_51_7, s_51_8, s_51_9, s_51_10, s_51_11, s_51_12, s_51_14, s_51_15, s_51_16, s_51_17, s_51_18, s_51_19, s_51_20, s_51_21, s_51_22, s_51_23, s_51_24, s_51_25, s_51_26, s_51_27, s_51_28, s_51_29, s_51_30, s_51_31, s_51_32, s_51_33, s_51_34, s_51_35, s_51_36, s_51_37, s_51_38, s_51_39, s_51_40, s_51_42, s_51_43, s_51_44, s_51_45, s_51_46, s_51_47, s_51_48, s_51_49, s_51_50, s_51_51, s_51_52, W.oo, m_43 W hg, h1, if_true, Gk_v, Gk_n, xcat_nil, xcat_i, xcat_r, xcat_l, xcat_d, Nat.zero_le, Nat.reduceAdd, Nat.reduceLeDiff, true_and, and_true, ykl_i, ykl_r, ykl_n, ykl_l]
  | succ m ih =>
    intro i a t W K hi ha
    have hn40 := W.ok.n40
    have hf6 := W.ok.f6
    have ho := yo_ge W.oo
    have hln := ylast_lt W.ok hg
    have h1 : ¬ yI (ylast D g) < yI i := fun h => absurd ((yI_lt (by omega) (by omega)).mp h) (by omega)
    have c1 : yix (yI g) 6 := yix_I (by omega) (by omega)
    have c2 : (yI g).toNatClampNeg = g := yI_clamp (by omega)
    have c3 : t.A (o + 9) g = yI lim := by rw [W.fl g hg, hfl]
    by_cases hx : lim < a
    · have h2 : yI lim < yI a := (yI_lt (by omega) (by omega)).mpr hx
      have h3 := ylsum_ge (D := D) (l := l) (m + 1) i a
      refine ⟨t, a, some (.int (yI i)), fun Q => ?_, ⟨⟨fun _ => by omega, fun _ => hx⟩, by omega⟩, K, yFr.rfl'⟩
      rw [s_51_13]
      simp only [s_51_0, s_51_1, s_51_2, s_51_3, s_51_4, s_51_5, s_51_6, s_51_7, s_51_8, s_51_9, s_51_10, s_51_11, s_51_12, s_51_14, s_51_15, s_51_16, s_51_17, s_51_18, s_51_19, s_51_20, s_51_21, s_51_22, s_51_23, s_51_24, s_51_25, s_51_26, s_51_27, s_51_28, s_51_29, s_51_30, s_51_31, s_51_32, s_51_33, s_51_34, s_51_35, s_51_36, s_51_37, s_51_38, s_51_39, s_51_40, s_51_42, s_51_43, s_51_44, s_51_45, s_51_46, s_51_47, s_51_48, s_51_49, s_51_50, s_51_51, s_51_52, W.oo, m_43 W hg, h1, h2, if_true, if_false, yAs_9 W.oo, yns_9 W.oo, c1, c2, c3, Gk_v, Gk_n, xcat_nil, xcat_i, xcat_r, xcat_l, xcat_d, Nat.zero_le, Nat.reduceAdd, Nat.reduceLeDiff, true_and, and_true, ykl_i, ykl_r, ykl_n, ykl_l]
    · have h2 : ¬ yI lim < yI a := fun h => hx ((yI_lt (by omega) (by omega)).mp h)
      have h4 : yI i + 1 = yI (i + 1) := yI_add
      have c4 : yix (yI i) 40 := yix_I (by omega) (by omega)
      have c5 : (yI i).toNatClampNeg = i := yI_clamp (by omega)
      have c6 : t.A (o + 1) i = D.fm i := W.fm i (by omega)
      have g1 := fun Q' => m_46 (d := d) (Q := Q') W (p := i) (by omega)
      cases hb : ylit D i
      · obtain ⟨u, a', l4, hu, hw, Ku, Fu⟩ := ih (i + 1) a t W K (by omega) (by omega)
        rw [hb] at g1
        refine ⟨u, a', l4, fun Q => ?_, ?_, Ku, Fu⟩
        · rw [s_51_13]
          simp only [s_51_0, s_51_1, s_51_2, s_51_3, s_51_4, s_51_5, s_51_6, s_51_7, s_51_8, s_51_9, s_51_10, s_51_11, s_51_12, s_51_14, s_51_15, s_51_16, s_51_17, s_51_18, s_51_19, s_51_20, s_51_21, s_51_22, s_51_23, s_51_24, s_51_25, s_51_26, s_51_27, s_51_28, s_51_29, s_51_30, s_51_31, s_51_32, s_51_33, s_51_34, s_51_35, s_51_36, s_51_37, s_51_38, s_51_39, s_51_40, s_51_42, s_51_43, s_51_44, s_51_45, s_51_46, s_51_47, s_51_48, s_51_49, s_51_50, s_51_51, s_51_52, W.oo, m_43 W hg, g1, ifb, Bool.false_eq_true, h1, h2, if_false, if_true, yAs_9 W.oo, yns_9 W.oo, c1, c2, c3, h4, hu, Gk_v, Gk_n, xcat_nil, xcat_i, xcat_r, xcat_l, xcat_d, Nat.zero_le, Nat.reduceAdd, Nat.reduceLeDiff, true_and, and_true, ykl_i, ykl_r, ykl_n, ykl_l]
        · rw [ylsum, hb, if_neg (by decide)]
          exact hw
      · obtain ⟨u1, hu1, K1, F1⟩ := m_2 (d := d) (c := D.fm i) W.ok.cok hl K
        have W1 : yW u1 o D := yW_fr W F1 (fun a _ _ (h : a = 4 ∨ a = 5) => by omega)
        have hcn := ycN_eq W.ok (ydueC D.cn D.cg l (D.fm i))
        have g2 := fun Q' => m_47 (d := d + 2) (Q := Q') W1 (c := ydueC D.cn D.cg l (D.fm i))
        rw [hcn.1] at g2
        have e1 : yI a + yI (ycN D (ydueC D.cn D.cg l (D.fm i))) = yI (a + ycN D (ydueC D.cn D.cg l (D.fm i))) := yI_add
        obtain ⟨u, a', l4, hu, hw, Ku, Fu⟩ := ih (i + 1) (a + ycN D (ydueC D.cn D.cg l (D.fm i))) u1 W1 K1 (by omega) (by omega)
        rw [hb] at g1
        refine ⟨u, a', l4, fun Q => ?_, ?_, Ku, F1.trans Fu (fun a h => by omega)⟩
        · rw [s_51_13]
          simp only [s_51_0, s_51_1, s_51_2, s_51_3, s_51_4, s_51_5, s_51_6, s_51_7, s_51_8, s_51_9, s_51_10, s_51_11, s_51_12, s_51_14, s_51_15, s_51_16, s_51_17, s_51_18, s_51_19, s_51_20, s_51_21, s_51_22, s_51_23, s_51_24, s_51_25, s_51_26, s_51_27, s_51_28, s_51_29, s_51_30, s_51_31, s_51_32, s_51_33, s_51_34, s_51_35, s_51_36, s_51_37, s_51_38, s_51_39, s_51_40, s_51_42, s_51_43, s_51_44, s_51_45, s_51_46, s_51_47, s_51_48, s_51_49, s_51_50, s_51_51, s_51_52, W.oo, yO_3, m_43 W hg, g1, ifb, h1, h2, if_false, if_true, yAs_9 W.oo, yns_9 W.oo, yAs_1 W.oo, yns_1 W.oo, c1, c2, c3, c4, c5, c6, hu1, g2, e1, h4, hu, Gk_v, Gk_n, xcat_nil, xcat_i, xcat_r, xcat_l, xcat_d, Nat.zero_le, Nat.reduceAdd, Nat.reduceLeDiff, true_and, and_true, ykl_i, ykl_r, ykl_n, ykl_l]
        · rw [ylsum, hb, if_pos rfl]
          exact hw
theorem l_51 {o l : Nat} (hl : l < 256) : ∀ m g (t : yT) l3 l4, yW t o D → yDm t D.cn D.cg l → g + m = D.f → ∃ u, Ga (d + 3) 51 2 [some (.ref o), some (.ref 3), some (.int (yI g)), l3, l4] [] (yemb t) (.inl (some (.int (yb (yall D l m g))))) (yemb u) ∧ (yDm u D.cn D.cg l ∧ yFr (fun a => a = 4 ∨ a = 5) t u) := by
  intro m
  induction m with
  | zero =>
    intro g t l3 l4 W K hg
    have e : g = D.f := by omega
    have h3 : yI D.f ≤ yI D.f := Int32.le_refl _
    refine ⟨t, fun Q => ?_, K, yFr.rfl'⟩
    rw [s_51_2]
    simp only [s_51_0, s_51_1, s_51_3, s_51_4, s_51_5, s_51_6, s_51_7, s_51_8, s_51_9, s_51_10, s_51_11, s_51_12, s_51_13, s_51_14, s_51_15, s_51_16, s_51_17, s_51_18, s_51_19, s_51_20, s_51_21, s_51_22, s_51_23, s_51_24, s_51_25, s_51_26, s_51_27, s_51_28, s_51_29, s_51_30, s_51_31, s_51_32, s_51_33, s_51_34, s_51_35, s_51_36, s_51_37, s_51_38, s_51_39, s_51_40, s_51_41, s_51_42, s_51_43, s_51_44, s_51_45, s_51_46, s_51_47, s_51_48, s_51_49, s_51_50, s_51_51, s_51_52, W.oo, W.f, e, h3, if_true, yall, yb_t, ybo_1, Gk_v, Gk_n, xcat_nil, xcat_i, xcat_r, xcat_l, xcat_d, Nat.zero_le, Nat.reduceAdd, Nat.reduceLeDiff, true_and, and_true, ykl_i, ykl_r, ykl_n, ykl_l]
  | succ m ih =>
    intro g t l3 l4 W K hg
    have hf6 := W.ok.f6
    have hn40 := W.ok.n40
    have ho := yo_ge W.oo
    have hgf : g < D.f := by omega
    have h3 : ¬ yI D.f ≤ yI g := fun h => absurd ((yI_le (by omega) (by omega)).mp h) (by omega)
    have h4 : yI g + 1 = yI (g + 1) := yI_add
    have c1 : yix (yI g) 6 := yix_I (by omega) (by omega)
    have c2 : (yI g).toNatClampNeg = g := yI_clamp (by omega)
    have c3 : t.A (o + 8) g = yI (D.fp g) := W.fp g hgf
    obtain ⟨lim, hlim, hfl⟩ := W.ok.fll g hgf
    have hpl := yfp_last W.ok hgf
    obtain ⟨u1, a', l4', hu1, ⟨hiff, ha'⟩, K1, F1⟩ := l_51i (d := d) hl hgf hlim hfl (ylast D g + 1 - D.fp g) (D.fp g) 0 t W K (by omega) (by omega)
    have W1 : yW u1 o D := yW_fr W F1 (fun a _ _ (h : a = 4 ∨ a = 5) => by omega)
    have c4 : u1.A (o + 9) g = yI lim := by rw [W1.fl g hgf, hfl]
    have ew : ywith D l g = decide (ylsum D l (ylast D g + 1 - D.fp g) (D.fp g) 0 ≤ lim) := by
      unfold ywith
      rw [hfl, yI_clamp (by omega)]
    cases hb : ywith D l g
    · have hgt : lim < a' := by
        rw [ew] at hb
        have := of_decide_eq_false hb
        exact hiff.mpr (by omega)
      have c5 : ¬ yI a' ≤ yI lim := fun h => absurd ((yI_le (by omega) (by omega)).mp h) (by omega)
      refine ⟨u1, fun Q => ?_, K1, F1⟩
      have hu1' := hu1 Q
      rw [s_51_2]
      simp only [s_51_0, s_51_1, s_51_3, s_51_4, s_51_5, s_51_6, s_51_7, s_51_8, s_51_9, s_51_10, s_51_11, s_51_12, s_51_51, s_51_52, W.oo, W.f, h3, if_false, yAs_8 W.oo, yns_8 W.oo, c1, c2, c3, Gk_v, Gk_n, xcat_nil, xcat_i, xcat_r, xcat_l, xcat_d, Nat.zero_le, Nat.reduceAdd, Nat.reduceLeDiff, true_and, and_true, ykl_i, ykl_r, ykl_n, ykl_l]
      rw [show (0 : Int32) = yI 0 from rfl, hu1']
      simp only [s_51_41, s_51_42, s_51_43 W.oo, s_51_44, s_51_45 (yAs_9 W.oo), s_51_46, s_51_47, s_51_48, yns_9 W.oo, c1, c2, c4, c5, if_false, yall, hb, Bool.false_eq_true, yb_f, ybo_0, Gk_v, Gk_n, xcat_nil, xcat_i, xcat_r, xcat_l, xcat_d, Nat.zero_le, Nat.reduceAdd, Nat.reduceLeDiff, true_and, and_true, ykl_i, ykl_r, ykl_n, ykl_l]
    · have hgt : a' ≤ lim := by
        rw [ew] at hb
        have h5 := of_decide_eq_true hb
        have h6 : ¬ lim < a' := fun h => absurd (hiff.mp h) (by omega)
        omega
      have c5 : yI a' ≤ yI lim := (yI_le (by omega) (by omega)).mpr hgt
      obtain ⟨u, hu, Ku, Fu⟩ := ih (g + 1) u1 (some (.int (yI a'))) l4' W1 K1 (by omega)
      refine ⟨u, fun Q => ?_, Ku, F1.trans Fu (fun a h => by omega)⟩
      have hu1' := hu1 Q
      rw [s_51_2]
      simp only [s_51_0, s_51_1, s_51_3, s_51_4, s_51_5, s_51_6, s_51_7, s_51_8, s_51_9, s_51_10, s_51_11, s_51_12, s_51_51, s_51_52, W.oo, W.f, h3, if_false, yAs_8 W.oo, yns_8 W.oo, c1, c2, c3, Gk_v, Gk_n, xcat_nil, xcat_i, xcat_r, xcat_l, xcat_d, Nat.zero_le, Nat.reduceAdd, Nat.reduceLeDiff, true_and, and_true, ykl_i, ykl_r, ykl_n, ykl_l]
      rw [show (0 : Int32) = yI 0 from rfl, hu1']
      simp only [s_51_41, s_51_42, s_51_43 W.oo, s_51_44, s_51_45 (yAs_9 W.oo), s_51_46, s_51_49, s_51_50, yns_9 W.oo, c1, c2, c4, c5, if_true, yall, hb, h4, hu, Gk_v, Gk_n, xcat_nil, xcat_i, xcat_r, xcat_l, xcat_d, Nat.zero_le, Nat.reduceAdd, Nat.reduceLeDiff, true_and, and_true, ykl_i, ykl_r, ykl_n, ykl_l]
theorem m_51 {o l : Nat} (hl : l < 256) {t : yT} (W : yW t o D) (K : yDm t D.cn D.cg l) : ∃ u, Ra (d + 3) 51 [.ref o, .ref 3] (yemb t) (.inl (some (.int (yb (yall D l D.f 0))))) (yemb u) ∧ (yDm u D.cn D.cg l ∧ yFr (fun a => a = 4 ∨ a = 5) t u) := by
  obtain ⟨u, hu, Ku, Fu⟩ := l_51 (d := d) hl D.f 0 t none none W K (Nat.zero_add _)
  refine ⟨u, fun Q => ?_, Ku, Fu⟩
  show G (d + 3) 51 0 [some (.ref o), some (.ref 3), none, none, none] [] (yemb t) Q ↔ _
  simp only [s_51_0, s_51_1, Gk_v, Gk_n, xcat_nil, xcat_i, xcat_r, xcat_l, xcat_d, Nat.zero_le, Nat.reduceAdd, Nat.reduceLeDiff, true_and, and_true, ykl_i, ykl_r, ykl_n, ykl_l]
  exact hu Q
theorem l_106 : ∀ c (t : yT), c ≤ 256 → yW t 7 D → ∃ u, Ga (d + 4) 106 2 [some (.ref 0), some (.int (yI c + (-1)))] [] (yemb t) (.inl (some (.int (ygl D c)))) (yemb u) ∧ yFr (fun a => 3 ≤ a ∧ a ≤ 5) t u := by
  intro c
  induction c with
  | zero =>
    intro t hc W
    refine ⟨t, fun Q => ?_, yFr.rfl'⟩
    have e : yI 0 + (-1) = -1 := by decide
    rw [e, s_106_2]
    simp only [s_106_0, s_106_1, s_106_3, s_106_4, s_106_5, s_106_6, s_106_7, s_106_8, s_106_9, s_106_10, s_106_11, s_106_12, s_106_13, s_106_14, s_106_15, s_106_16, s_106_17, s_106_18, s_106_19, s_106_20, s_106_21, s_106_22, show (-1 : Int32) < 0 from by decide, if_true, ygl]
  | succ c ih =>
    intro t hc W
    have e : yI (c + 1) + (-1) = yI c := yI_m1 (by omega)
    have h1 : ¬ yI c < 0 := yI_nneg (by omega)
    have F1 : yFr (fun a => a = 3 ∨ a = 4) t (((t.sR 3 (t.R 7)).s1 3 3 (yI c)).sA 4 (fun j => if j < 256 then -1 else t.A 4 j)) :=
      ((yFr_sR (P := fun a => a = 3) rfl).trans (yFr_s1 (P := fun a => a = 3) rfl) (P'' := fun a => a = 3) (fun a h => by omega)).trans (yFr_sA (P := fun a => a = 4) rfl) (fun a h => by omega)
    have W1 := yW_fr W F1 (fun a _ _ (h : a = 3 ∨ a = 4) => by omega)
    have K1 : yDm (((t.sR 3 (t.R 7)).s1 3 3 (yI c)).sA 4 (fun j => if j < 256 then -1 else t.A 4 j)) D.cn D.cg c := by
      refine ⟨⟨W.c1.1, W.c1.2, W.cv⟩, ?_, ?_⟩
      · rw [ysA_ne (by decide), ys1_upd, yupd_same]
      · intro x hx
        rw [ysA_same]
        left
        exact if_pos hx
    have hp := fun Q' => m_1 (d := d + 2) (r := t.R 7) (v := yI c) t Q'
    obtain ⟨u1, hu1, K2, F2⟩ := m_51 (d := d) (l := c) (by omega) W1 K1
    have W2 := yW_fr W1 F2 (fun a _ _ (h : a = 4 ∨ a = 5) => by omega)
    cases hb : yall D c D.f 0
    · obtain ⟨u, hu, Fu⟩ := ih u1 (by omega) W2
      rw [hb] at hu1
      refine ⟨u, fun Q => ?_, (F1.trans F2 (P'' := fun a => 3 ≤ a ∧ a ≤ 5) (fun a h => by omega)).trans Fu (fun a h => by omega)⟩
      rw [e, s_106_2]
      simp only [s_106_0, s_106_1, s_106_3, s_106_4, s_106_5, s_106_6, s_106_7, s_106_8, s_106_9, s_106_10, s_106_11, s_106_12, s_106_13, s_106_14, s_106_15, s_106_16, s_106_17, s_106_18, s_106_19, s_106_20, s_106_21, s_106_22, yO_0, yO_3, yO_7, h1, if_false, hp, hu1, yb_f, if_true, ygl, hb, Bool.false_eq_true, hu, Gk_v, Gk_n, xcat_nil, xcat_i, xcat_r, xcat_l, xcat_d, Nat.zero_le, Nat.reduceAdd, Nat.reduceLeDiff, true_and, and_true, ykl_i, ykl_r, ykl_n, ykl_l]
    · rw [hb] at hu1
      refine ⟨u1, fun Q => ?_, F1.trans F2 (fun a h => by omega)⟩
      rw [e, s_106_2]
      simp only [s_106_0, s_106_1, s_106_3, s_106_4, s_106_5, s_106_6, s_106_7, s_106_8, s_106_9, s_106_10, s_106_11, s_106_12, s_106_13, s_106_14, s_106_15, s_106_16, s_106_17, s_106_18, s_106_19, s_106_20, s_106_21, s_106_22, yO_0, yO_3, yO_7, h1, if_false, hp, hu1, yb_t, yne10, ygl, hb, if_true, Gk_v, Gk_n, xcat_nil, xcat_i, xcat_r, xcat_l, xcat_d, Nat.zero_le, Nat.reduceAdd, Nat.reduceLeDiff, true_and, and_true, ykl_i, ykl_r, ykl_n, ykl_l]
theorem l_200i {l g lim : Nat} (hl : l < 256) (hg : g < D.f) : ∀ m i a (t : yT), yM (t.A 162) D → i + m = ylast D g + 1 → a ≤ 100 * i → ∃ (u : yT) (l4 : Option Value), Gg (d + 4) 200 16 [some (.ref 160), some (.int (yI l)), some (.int (yI g)), some (.int (yI a)), some (.int (yI i))] [] (yemb t) 38 [some (.ref 160), some (.int (yI l)), some (.int (yI g)), some (.int (yI (ylsum D l m i a))), l4] [] (yemb u) ∧ (ylsum D l m i a ≤ 4100 ∧ yFr (fun a => a = 180) t u) := by
  intro m
  induction m with
  | zero =>
    intro i a t M hi ha
    have hn40 := M.ok.n40
    have hln := ylast_lt M.ok hg
    have h1 : yI (ylast D g) < yI i := (yI_lt (by omega) (by omega)).mpr (by omega)
    refine ⟨t, some (.int (yI i)), fun Q => ?_, by rw [ylsum]; omega, yFr.rfl'⟩
    rw [s_200_16]
    simp only [s_200_0, s_200_1, s_200_2, s_200_3, s_200_4, s_200_5, s_200_6, s_200_7, s_200_8, s_200_9, s_200_10, s_200_11, s_200_12, s_200_13, s_200_14, s_200_15, s_200_17, s_200_18, s_200_19, s_200_20, s_200_21, s_200_22, s_200_23, s_200_24, s_200_25, s_200_26, s_200_27, s_200_28, s_200_29, s_200_30, s_200_31, s_200_32, s_200_33, s_200_34, s_200_35, s_200_36, s_200_37, s_200_39, s_200_40, s_200_41, s_200_42, s_200_43, s_200_44, s_200_45, s_200_46, s_200_47, s_200_48, s_200_49, s_200_50, s_200_51, s_200_52, yO_160, m_165 M hg, h1, if_true, ylsum, Gk_v, Gk_n, xcat_nil, xcat_i, xcat_r, xcat_l, xcat_d, Nat.zero_le, Nat.reduceAdd, Nat.reduceLeDiff, true_and, and_true, ykl_i, ykl_r, ykl_n, ykl_l]
  | succ m ih =>
    intro i a t M hi ha
    have hn40 := M.ok.n40
    have hln := ylast_lt M.ok hg
    have h1 : ¬ yI (ylast D g) < yI i := fun h => absurd ((yI_lt (by omega) (by omega)).mp h) (by omega)
    have h4 : yI i + 1 = yI (i + 1) := yI_add
    have g1 := fun Q' => m_164 (d := d + 1) (Q := Q') M (p := i) (by omega)
    cases hb : ylit D i
    · obtain ⟨u, l4, hu, hw, Fu⟩ := ih (i + 1) a t M (by omega) (by omega)
      rw [hb] at g1
      have es : ylsum D l (m + 1) i a = ylsum D l m (i + 1) a := by rw [ylsum, hb, if_neg (by decide)]
      rw [es]
      refine ⟨u, l4, fun Q => ?_, hw, Fu⟩
      rw [s_200_16]
      simp only [s_200_0, s_200_1, s_200_2, s_200_3, s_200_4, s_200_5, s_200_6, s_200_7, s_200_8, s_200_9, s_200_10, s_200_11, s_200_12, s_200_13, s_200_14, s_200_15, s_200_17, s_200_18, s_200_19, s_200_20, s_200_21, s_200_22, s_200_23, s_200_24, s_200_25, s_200_26, s_200_27, s_200_28, s_200_29, s_200_30, s_200_31, s_200_32, s_200_33, s_200_34, s_200_35, s_200_36, s_200_37, s_200_39, s_200_40, s_200_41, s_200_42, s_200_43, s_200_44, s_200_45, s_200_46, s_200_47, s_200_48, s_200_49, s_200_50, s_200_51, s_200_52, yO_160, m_165 M hg, g1, ifb, Bool.false_eq_true, h1, if_false, if_true, Int32.add_zero, h4, hu, Gk_v, Gk_n, xcat_nil, xcat_i, xcat_r, xcat_l, xcat_d, Nat.zero_le, Nat.reduceAdd, Nat.reduceLeDiff, true_and, and_true, ykl_i, ykl_r, ykl_n, ykl_l]
    · obtain ⟨u1, hu1, F1⟩ := m_177 (d := d) (p := i) (show i < 40 by omega) hl M.ok.cok M
      have M1 := yM_ne M F1 (by decide)
      have hcn := ycN_eq M.ok (ydueC D.cn D.cg l (D.fm i))
      have g2 := fun Q' => m_167 (d := d + 3) (Q := Q') M1 (c := ydueC D.cn D.cg l (D.fm i))
      rw [hcn.1] at g2
      have e1 : yI a + yI (ycN D (ydueC D.cn D.cg l (D.fm i))) = yI (a + ycN D (ydueC D.cn D.cg l (D.fm i))) := yI_add
      obtain ⟨u, l4, hu, hw, Fu⟩ := ih (i + 1) (a + ycN D (ydueC D.cn D.cg l (D.fm i))) u1 M1 (by omega) (by omega)
      rw [hb] at g1
      have es : ylsum D l (m + 1) i a = ylsum D l m (i + 1) (a + ycN D (ydueC D.cn D.cg l (D.fm i))) := by rw [ylsum, hb, if_pos rfl]
      rw [es]
      refine ⟨u, l4, fun Q => ?_, hw, F1.trans Fu (fun a h => by omega)⟩
      rw [s_200_16]
      simp only [s_200_0, s_200_1, s_200_2, s_200_3, s_200_4, s_200_5, s_200_6, s_200_7, s_200_8, s_200_9, s_200_10, s_200_11, s_200_12, s_200_13, s_200_14, s_200_15, s_200_17, s_200_18, s_200_19, s_200_20, s_200_21, s_200_22, s_200_23, s_200_24, s_200_25, s_200_26, s_200_27, s_200_28, s_200_29, s_200_30, s_200_31, s_200_32, s_200_33, s_200_34, s_200_35, s_200_36, s_200_37, s_200_39, s_200_40, s_200_41, s_200_42, s_200_43, s_200_44, s_200_45, s_200_46, s_200_47, s_200_48, s_200_49, s_200_50, s_200_51, s_200_52, yO_160, m_165 M hg, g1, ifb, h1, if_false, if_true, hu1, g2, e1, h4, hu, Gk_v, Gk_n, xcat_nil, xcat_i, xcat_r, xcat_l, xcat_d, Nat.zero_le, Nat.reduceAdd, Nat.reduceLeDiff, true_and, and_true, ykl_i, ykl_r, ykl_n, ykl_l]
theorem l_200 {l : Nat} (hl : l < 256) : ∀ m g (t : yT) l3 l4, yM (t.A 162) D → g + m = D.f → ∃ u, Ga (d + 4) 200 2 [some (.ref 160), some (.int (yI l)), some (.int (yI g)), l3, l4] [] (yemb t) (.inl (some (.int (yb (yall D l m g))))) (yemb u) ∧ yFr (fun a => a = 180) t u := by
  intro m
  induction m with
  | zero =>
    intro g t l3 l4 M hg
    have e : g = D.f := by omega
    have h3 : yI D.f ≤ yI D.f := Int32.le_refl _
    refine ⟨t, fun Q => ?_, yFr.rfl'⟩
    rw [s_200_2]
    simp only [s_200_0, s_200_1, s_200_3, s_200_4, s_200_5, s_200_6, s_200_7, s_200_8, s_200_9, s_200_10, s_200_11, s_200_12, s_200_13, s_200_14, s_200_15, s_200_16, s_200_17, s_200_18, s_200_19, s_200_20, s_200_21, s_200_22, s_200_23, s_200_24, s_200_25, s_200_26, s_200_27, s_200_28, s_200_29, s_200_30, s_200_31, s_200_32, s_200_33, s_200_34, s_200_35, s_200_36, s_200_37, s_200_38, s_200_39, s_200_40, s_200_41, s_200_42, s_200_43, s_200_44, s_200_45, s_200_46, s_200_47, s_200_48, s_200_49, s_200_50, s_200_51, s_200_52, yO_160, yA_162, yn_162, yix3, ycl3, M.f, e, h3, if_true, yall, yb_t, ybo_1, Gk_v, Gk_n, xcat_nil, xcat_i, xcat_r, xcat_l, xcat_d, Nat.zero_le, Nat.reduceAdd, Nat.reduceLeDiff, true_and, and_true, ykl_i, ykl_r, ykl_n, ykl_l]
  | succ m ih =>
    intro g t l3 l4 M hg
    have hf6 := M.ok.f6
    have hn40 := M.ok.n40
    have hgf : g < D.f := by omega
    have h3 : ¬ yI D.f ≤ yI g := fun h => absurd ((yI_le (by omega) (by omega)).mp h) (by omega)
    have h4 : yI g + 1 = yI (g + 1) := yI_add
    have c1 : yix (yI (328 + 2 * g)) 1540 := yix_I (by omega) (by omega)
    have c2 : (yI (328 + 2 * g)).toNatClampNeg = 328 + 2 * g := yI_clamp (by omega)
    have c3 : t.A 162 (328 + 2 * g) = yI (D.fp g) := M.fp g hgf
    have e1 : yI (328 + 2 * g) + 1 = yI (328 + 2 * g + 1) := yI_add
    have c6 : yix (yI (328 + 2 * g + 1)) 1540 := yix_I (by omega) (by omega)
    have c7 : (yI (328 + 2 * g + 1)).toNatClampNeg = 328 + 2 * g + 1 := yI_clamp (by omega)
    obtain ⟨lim, hlim, hfl⟩ := M.ok.fll g hgf
    have hpl := yfp_last M.ok hgf
    obtain ⟨u1, l4', hu1, ha', F1⟩ := l_200i (d := d) (lim := lim) hl hgf (ylast D g + 1 - D.fp g) (D.fp g) 0 t M (by omega) (by omega)
    have M1 := yM_ne M F1 (by decide)
    have c4 : u1.A 162 (328 + 2 * g + 1) = yI lim := by rw [M1.fl g hgf, hfl]
    have ew : ywith D l g = decide (ylsum D l (ylast D g + 1 - D.fp g) (D.fp g) 0 ≤ lim) := by
      unfold ywith
      rw [hfl, yI_clamp (by omega)]
    generalize ylsum D l (ylast D g + 1 - D.fp g) (D.fp g) 0 = a' at *
    cases hb : ywith D l g
    · have hgt : ¬ a' ≤ lim := by
        rw [ew] at hb
        exact of_decide_eq_false hb
      have c5 : ¬ yI a' ≤ yI lim := fun h => hgt ((yI_le (by omega) (by omega)).mp h)
      refine ⟨u1, fun Q => ?_, F1⟩
      have hu1' := hu1 Q
      rw [s_200_2]
      simp only [s_200_0, s_200_1, s_200_3, s_200_4, s_200_5, s_200_6, s_200_7, s_200_8, s_200_9, s_200_10, s_200_11, s_200_12, s_200_13, s_200_14, s_200_15, s_200_51, s_200_52, yO_160, yA_162, yn_162, yix3, ycl3, M.f, h3, if_false, m_161, c1, c2, c3, Gk_v, Gk_n, xcat_nil, xcat_i, xcat_r, xcat_l, xcat_d, Nat.zero_le, Nat.reduceAdd, Nat.reduceLeDiff, true_and, and_true, ykl_i, ykl_r, ykl_n, ykl_l]
      rw [show (0 : Int32) = yI 0 from rfl, hu1']
      simp only [s_200_38, s_200_39, s_200_40 yO_160, s_200_41, s_200_42, s_200_43, s_200_44, s_200_45 yA_162, s_200_46, s_200_47, s_200_48, yn_162, m_161, e1, c6, c7, c4, c5, if_false, yall, hb, Bool.false_eq_true, yb_f, ybo_0, Gk_v, Gk_n, xcat_nil, xcat_i, xcat_r, xcat_l, xcat_d, Nat.zero_le, Nat.reduceAdd, Nat.reduceLeDiff, true_and, and_true, ykl_i, ykl_r, ykl_n, ykl_l]
    · have hgt : a' ≤ lim := by
        rw [ew] at hb
        exact of_decide_eq_true hb
      have c5 : yI a' ≤ yI lim := (yI_le (by omega) (by omega)).mpr hgt
      obtain ⟨u, hu, Fu⟩ := ih (g + 1) u1 (some (.int (yI a'))) l4' M1 (by omega)
      refine ⟨u, fun Q => ?_, F1.trans Fu (fun a h => by omega)⟩
      have hu1' := hu1 Q
      rw [s_200_2]
      simp only [s_200_0, s_200_1, s_200_3, s_200_4, s_200_5, s_200_6, s_200_7, s_200_8, s_200_9, s_200_10, s_200_11, s_200_12, s_200_13, s_200_14, s_200_15, s_200_51, s_200_52, yO_160, yA_162, yn_162, yix3, ycl3, M.f, h3, if_false, m_161, c1, c2, c3, Gk_v, Gk_n, xcat_nil, xcat_i, xcat_r, xcat_l, xcat_d, Nat.zero_le, Nat.reduceAdd, Nat.reduceLeDiff, true_and, and_true, ykl_i, ykl_r, ykl_n, ykl_l]
      rw [show (0 : Int32) = yI 0 from rfl, hu1']
      simp only [s_200_38, s_200_39, s_200_40 yO_160, s_200_41, s_200_42, s_200_43, s_200_44, s_200_45 yA_162, s_200_46, s_200_49, s_200_50, yn_162, m_161, e1, c6, c7, c4, c5, if_true, yall, hb, h4, hu, Gk_v, Gk_n, xcat_nil, xcat_i, xcat_r, xcat_l, xcat_d, Nat.zero_le, Nat.reduceAdd, Nat.reduceLeDiff, true_and, and_true, ykl_i, ykl_r, ykl_n, ykl_l]
theorem m_200 {l : Nat} (hl : l < 256) {t : yT} (M : yM (t.A 162) D) : ∃ u, Ra (d + 4) 200 [.ref 160, .int (yI l)] (yemb t) (.inl (some (.int (yb (yall D l D.f 0))))) (yemb u) ∧ yFr (fun a => a = 180) t u := by
  obtain ⟨u, hu, Fu⟩ := l_200 (d := d) hl D.f 0 t none none M (Nat.zero_add _)
  refine ⟨u, fun Q => ?_, Fu⟩
  show G (d + 4) 200 0 [some (.ref 160), some (.int (yI l)), none, none, none] [] (yemb t) Q ↔ _
  simp only [s_200_0, s_200_1, Gk_v, Gk_n, xcat_nil, xcat_i, xcat_r, xcat_l, xcat_d, Nat.zero_le, Nat.reduceAdd, Nat.reduceLeDiff, true_and, and_true, ykl_i, ykl_r, ykl_n, ykl_l]
  exact hu Q
theorem l_201 : ∀ c (t : yT), c ≤ 256 → yM (t.A 162) D → ∃ u, Ga (d + 5) 201 5 [some (.ref 160), some (.int (yI c + (-1)))] [] (yemb t) (.inl (some (.int (ygl D c)))) (yemb u) ∧ yFr (fun a => a = 180) t u := by
  intro c
  induction c with
  | zero =>
    intro t hc M
    refine ⟨t, fun Q => ?_, yFr.rfl'⟩
    have e : yI 0 + (-1) = -1 := by decide
    rw [e, s_201_5]
    simp only [s_201_0, s_201_1, s_201_2, s_201_3, s_201_4, s_201_6, s_201_7, s_201_8, s_201_9, s_201_10, s_201_11, s_201_12, s_201_13, s_201_14, show (-1 : Int32) < 0 from by decide, if_true, ygl]
  | succ c ih =>
    intro t hc M
    have e : yI (c + 1) + (-1) = yI c := yI_m1 (by omega)
    have h1 : ¬ yI c < 0 := yI_nneg (by omega)
    obtain ⟨u1, hu1, F1⟩ := m_200 (d := d) (l := c) (by omega) M
    have M1 := yM_ne M F1 (by decide)
    cases hb : yall D c D.f 0
    · obtain ⟨u, hu, Fu⟩ := ih u1 (by omega) M1
      rw [hb] at hu1
      refine ⟨u, fun Q => ?_, F1.trans Fu (fun a h => by omega)⟩
      rw [e, s_201_5]
      simp only [s_201_0, s_201_1, s_201_2, s_201_3, s_201_4, s_201_6, s_201_7, s_201_8, s_201_9, s_201_10, s_201_11, s_201_12, s_201_13, s_201_14, yO_160, h1, if_false, hu1, yb_f, if_true, ygl, hb, Bool.false_eq_true, ne_eq, not_true_eq_false, hu, Gk_v, Gk_n, xcat_nil, xcat_i, xcat_r, xcat_l, xcat_d, Nat.zero_le, Nat.reduceAdd, Nat.reduceLeDiff, true_and, and_true, ykl_i, ykl_r, ykl_n, ykl_l]
    · rw [hb] at hu1
      refine ⟨u1, fun Q => ?_, F1⟩
      rw [e, s_201_5]
      simp only [s_201_0, s_201_1, s_201_2, s_201_3, s_201_4, s_201_6, s_201_7, s_201_8, s_201_9, s_201_10, s_201_11, s_201_12, s_201_13, s_201_14, yO_160, h1, if_false, hu1, yb_t, yne10, ygl, hb, if_true, ne_eq, not_false_eq_true, Gk_v, Gk_n, xcat_nil, xcat_i, xcat_r, xcat_l, xcat_d, Nat.zero_le, Nat.reduceAdd, Nat.reduceLeDiff, true_and, and_true, ykl_i, ykl_r, ykl_n, ykl_l]
theorem k_106 (I : yInv t) : ∃ u1 u v, Ra (d + 4) 106 [.ref 0] (yemb t) (.inl (some (.int v))) (yemb u1) ∧ (Ra (d + 5) 201 [.ref 160] (yemb u1) (.inl (some (.int v))) (yemb u) ∧ yOK t u 0 (u1.L 183 0)) := by
  obtain ⟨⟨D, k, E, s0, s1, n, B, eo, en, C, M⟩, Z⟩ := I
  obtain ⟨u1, h1, F1⟩ := l_106 (d := d) 256 t (Nat.le_refl _) C.1
  have Fc : yFc t u1 := yFc_fr F1 (fun a h => by omega)
  have C1 := yCI_fr C F1 (fun a h => by omega)
  have M0 := yMI_s1 (j := 0) (v := 0) (yMI_c M Fc) (by decide)
  obtain ⟨u2, h2, F2⟩ := l_201 (d := d) 256 _ (Nat.le_refl _) M0.1
  refine ⟨u1, u2, ygl D 256, fun Q => ?_, fun Q => ?_, yOK_of Z Fc C1 (yFm_trans yFm_s1 (yFm_fr F2 (fun a h => by omega))) (yMI_fr M0 F2 (fun a h => by omega)) (by rw [F2.A (by decide)]; exact ys1_same) (fun _ => rfl)⟩
  · have h1' := h1 Q
    have e : yI 256 + (-1) = 255 := by decide
    rw [e] at h1'
    show G (d + 4) 106 0 [some (.ref 0), none] [] (yemb t) Q ↔ _
    simp only [s_106_0, s_106_1, Gk_v, Gk_n, xcat_nil, xcat_i, xcat_r, xcat_l, xcat_d, Nat.zero_le, Nat.reduceAdd, Nat.reduceLeDiff, true_and, and_true, ykl_i, ykl_r, ykl_n, ykl_l]
    exact h1'
  · have h2' := h2 Q
    have e : yI 256 + (-1) = 255 := by decide
    rw [e] at h2'
    show G (d + 5) 201 0 [some (.ref 160), none] [] (yemb u1) Q ↔ _
    simp only [s_201_0, s_201_1, s_201_2 yO_160, s_201_3, s_201_4, Gk_v, Gk_n, xcat_nil, xcat_i, xcat_r, xcat_l, xcat_d, Nat.zero_le, Nat.reduceAdd, Nat.reduceLeDiff, true_and, and_true, ykl_i, ykl_r, ykl_n, ykl_l]
    exact h2'
end
