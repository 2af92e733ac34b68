/-! ===== forecasts: origin, wrongIn ===== -/
theorem ydl_eq {l : Nat} : ∀ m p (D : yD), ydl l m p D = D.sdu (fun q => if p ≤ q ∧ q < p + m then ydueC D.cn D.cg l (D.fm q) else D.du q) := by
  intro m
  induction m with
  | zero =>
    intro p D
    have e : (fun q => if p ≤ q ∧ q < p + 0 then ydueC D.cn D.cg l (D.fm q) else D.du q) = D.du := by
      funext q
      rw [if_neg (by omega)]
    rw [e]
    rfl
  | succ m ih =>
    intro p D
    rw [ydl, ih]
    have e : ∀ (f g : Nat → Int32), (D.sdu f).sdu g = D.sdu g := fun _ _ => rfl
    rw [e]
    congr 1
    funext q
    rw [ysdu_cn, ysdu_cg, ysdu_fm, ysdu_du]
    by_cases h1 : q = p
    · rw [if_neg (by omega), if_pos (by omega), h1, yupd_same]
    · by_cases h2 : p + 1 ≤ q ∧ q < p + 1 + m
      · rw [if_pos h2, if_pos (by omega)]
      · rw [if_neg h2, if_neg (by omega), yupd_ne h1]
theorem ydue_eq (D : yD) : ydue D = D.sdu (fun q => if q < D.n then ydueC D.cn D.cg (yll D) (D.fm q) else D.du q) := by
  unfold ydue
  rw [ydl_eq]
  congr 1
  funext q
  by_cases h : q < D.n
  · rw [if_pos (by omega), if_pos h]
  · rw [if_neg (by omega), if_neg h]
/-- what the row's going along leaves as it is -/
abbrev ysame (D X : yD) : Prop := X.n = D.n ∧ (X.f = D.f ∧ (X.un = D.un ∧ (X.lv = D.lv ∧ (X.bw = D.bw ∧ (X.kd = D.kd ∧ (X.pd = D.pd ∧ (X.du = D.du ∧ (X.fm = D.fm ∧ (X.fp = D.fp ∧ (X.fl = D.fl ∧ (X.cn = D.cn ∧ X.cg = D.cg)))))))))))
theorem ysame_tkS {D X : yD} (h : ysame D X) {p : Nat} {c f : Int32} : ysame D (ytkS X p c f) := h
theorem ysame_fr {D X : yD} (h : ysame D X) {v : Nat → Int32} : ysame D (X.sfr v) := h
theorem ygo_same : ∀ m p f (D X : yD), ysame D X → ysame D (ygo m p f X) := by
  intro m
  induction m with
  | zero => intro p f D X h; exact h
  | succ m ih =>
    intro p f D X h
    rw [ygo]
    split
    · exact ih _ _ _ _ h
    · split
      · split
        · exact ysame_fr h
        · exact ih _ _ _ _ (ysame_tkS h)
      · exact h
theorem ysame_rfl {D : yD} : ysame D D := ⟨rfl, rfl, rfl, rfl, rfl, rfl, rfl, rfl, rfl, rfl, rfl, rfl, rfl⟩
theorem ypassD_same (D : yD) : ysame D (ypassD D) := ygo_same _ _ _ _ _ ysame_rfl
theorem ydue_pass (D : yD) : ydue (ypassD (ydue D)) = ypassD (ydue D) := by
  obtain ⟨h1, -, -, h4, -, -, -, h8, h9, -, -, h12, h13⟩ := ypassD_same (ydue D)
  rw [ydue_eq (ypassD (ydue D)), h1, h8, h9, h12, h13]
  have e0 : yll (ypassD (ydue D)) = yll D := by
    unfold yll
    rw [h4, ydue_eq, ysdu_lv]
  rw [e0, ydue_eq D, ysdu_n, ysdu_fm, ysdu_cn, ysdu_cg, ysdu_du]
  generalize hX : ypassD (D.sdu fun q => if q < D.n then ydueC D.cn D.cg (yll D) (D.fm q) else D.du q) = X
  have h8' : X.du = (fun q => if q < D.n then ydueC D.cn D.cg (yll D) (D.fm q) else D.du q) := by
    rw [← hX, (ypassD_same _).2.2.2.2.2.2.2.1, ysdu_du]
  have e1 : (fun q => if q < D.n then ydueC D.cn D.cg (yll D) (D.fm q) else (if q < D.n then ydueC D.cn D.cg (yll D) (D.fm q) else D.du q)) = X.du := by
    rw [h8']
    funext q
    split <;> rfl
  rw [e1]
  rfl
def ypasses : Nat → yD → yD
  | 0, D => D
  | m + 1, D => ypasses m (ypassD D)
theorem ypassD_ok {D : yD} (h : yDok D) : yDok (ypassD D) := ygo_ok _ _ _ _ h
theorem ydue_ok {D : yD} (h : yDok D) : yDok (ydue D) := by
  rw [ydue_eq]
  exact yDok_sdu h
theorem ytk_og {r : Nat → Int32} {q : Nat} : ∀ n p (X : yD), p ≤ q → q < p + n → (ytk r n p X).og q = if r q < 0 then X.og q else if X.kd q = 1 then X.og q else r q := by
  have lo : ∀ n p (X : yD), q < p → (ytk r n p X).og q = X.og q := by
    intro n
    induction n with
    | zero => intro p X _; rfl
    | succ n ih =>
      intro p X h
      rw [ytk]
      split
      · exact ih _ _ (by omega)
      · split
        · rw [ih _ _ (by omega), ysfr_og]
        · rw [ih _ _ (by omega), ytkS_og, yupd_ne (by omega)]
  intro n
  induction n with
  | zero => intro p X h1 h2; omega
  | succ n ih =>
    intro p X h1 h2
    rw [ytk]
    by_cases e : q = p
    · rw [← e]
      split
      · exact lo _ _ _ (by omega)
      · split
        · rw [lo _ _ _ (by omega), ysfr_og]
        · rw [lo _ _ _ (by omega), ytkS_og, yupd_same]
    · split
      · exact ih _ _ (by omega) (by omega)
      · split
        · rw [ih _ _ (by omega) (by omega), ysfr_og, ysfr_kd]
        · rw [ih _ _ (by omega) (by omega), ytkS_og, ytkS_kd, yupd_ne e]
theorem yrw_same {D X : yD} {b : Nat → Bool} (h1 : X.n = D.n) (h2 : X.kd = D.kd) (h3 : X.pd = D.pd) (h4 : X.fr = D.fr) : ∀ n p f r, yrw X b n p f r = yrw D b n p f r := by
  intro n
  induction n with
  | zero => intro p f r; rfl
  | succ n ih =>
    intro p f r
    have hb : ∀ p f, ybeg X b p f = ybeg D b p f := by
      intro p f
      unfold ybeg ystut
      rw [h1, h2, h3, h4]
    simp only [yrw, h1, hb, ih]
theorem yrow_same {D X : yD} {b : Nat → Bool} (h1 : X.n = D.n) (h2 : X.kd = D.kd) (h3 : X.pd = D.pd) (h4 : X.fr = D.fr) : yrow X b = yrow D b := by
  unfold yrow ysent
  rw [yrw_same h1 h2 h3 h4, h1]
/-- the origin of what a pixel would take -/
def yorg (D : yD) (p : Nat) : Int32 := if D.kd p = 1 then -1 else yrow D D.bp p
theorem yorg_eq {D X : yD} (hX : yDok X) (h1 : X.n = D.n) (h2 : X.kd = D.kd) (h3 : X.pd = D.pd) (h4 : X.fr = D.fr) (h5 : X.bw = D.bw) {p : Nat} (hp : p < D.n) (ho : X.og p = -1) : (ypassD X).og p = yorg D p := by
  have hb : X.bp = D.bp := by
    funext q
    unfold yD.bp
    rw [h5]
  have hn40 := hX.n40
  rw [← ytaken_go hX]
  unfold ytaken
  rw [ytk_og X.n 0 X (Nat.zero_le _) (by omega), ho, hb, yrow_same h1 h2 h3 h4, h2]
  unfold yorg
  by_cases hk : D.kd p = 1
  · rw [if_pos hk]
    split <;> rfl
  · rw [if_neg hk]
    rcases yrow_val (b := D.bp) (D := D) (by omega) hp with h | ⟨q, hq, h⟩
    · rw [h, if_pos (by decide)]
    · rw [h, if_neg (yI_nneg (by omega))]
/-- back from aside -/
theorem yN_back {S0 S1 S2 : Nat → Int32} {D X : yD} (hD : yDok D) (N : yN S0 D) (N1 : yN S1 X) (h1 : X.cn = D.cn) (h2 : X.cg = D.cg) (hS : ∀ j, S2 j = if j < 340 then S0 j else S1 j) : yN S2 D := by
  have h6 := hD.f6
  have lo : ∀ j, j < 340 → S2 j = S0 j := fun j h => by rw [hS, if_pos h]
  have hi : ∀ j, 340 ≤ j → S2 j = S1 j := fun j h => by rw [hS, if_neg (by omega)]
  refine ⟨?_, ?_, ?_, ?_, ?_, ?_, ?_, ?_, ?_, ?_, ?_, ?_, ?_, ?_, ?_, ?_, ?_, ?_, ?_⟩
  · rw [lo _ (by omega)]; exact N.n
  · rw [lo _ (by omega)]; exact N.un
  · rw [lo _ (by omega)]; exact N.lv
  · rw [lo _ (by omega)]; exact N.f
  · rw [lo _ (by omega)]; exact N.sh
  · rw [lo _ (by omega)]; exact N.ac
  · rw [lo _ (by omega)]; exact N.hc
  · rw [lo _ (by omega)]; exact N.nc
  · intro p hp; rw [lo _ (by omega)]; exact N.kd p hp
  · intro p hp; rw [lo _ (by omega)]; exact N.pd p hp
  · intro p hp; rw [lo _ (by omega)]; exact N.fr p hp
  · intro p hp; rw [lo _ (by omega)]; exact N.tk p hp
  · intro p hp; rw [lo _ (by omega)]; exact N.du p hp
  · intro p hp; rw [lo _ (by omega)]; exact N.og p hp
  · intro p hp; rw [lo _ (by omega)]; exact N.fm p hp
  · intro p hp; rw [lo _ (by omega)]; exact N.bp p hp
  · intro g hg
    have hg1 : g < D.f := hg
    rw [lo _ (by omega)]; exact N.fp g hg
  · intro g hg
    have hg1 : g < D.f := hg
    rw [lo _ (by omega)]; exact N.fl g hg
  · intro i hi'
    have hi1 : i < D.cn := hi'
    rw [hi _ (by omega), hi _ (by omega)]
    have := N1.cc i (by rw [h1]; exact hi1)
    rw [h2] at this
    exact this
section
variable {d : Nat} {t : yT} {D : yD} {k : Nat} {E : Nat → yD} {s0 s1 : Option yD} {n : Nat} {B : Nat → Nat} {eo en : Int32}
theorem q_103 (C : yCI t D k E s0 s1 n B eo en) {p : Nat} (hp : p < D.n) (hc : yisp D (yI p) = true) : ∃ u, Ra (d + 3) 103 [.ref 0, .int (yI p)] (yemb t) (.inl (some (.int (yorg D p)))) (yemb u) ∧ (yCI u D k E s0 s1 n B eo en ∧ yFr (fun a => a < 160) t u) := by
  have hn40 := C.1.ok.n40
  have F1 : yFr (fun a => a = 17) t (t.sA (7 + 10) (ysent D D.bp (t.A (7 + 10)))) := yFr_sA rfl
  have C1 := yCI_fr C F1 (fun a h => by omega)
  have g1 := fun Q' => m_32' (d := d + 2) C.1 (j := yI p) Q'
  have g2 := fun Q' => m_55 (d := d) (Q := Q') C.1 C.1.bp
  have c3 : yix (yI p) 40 := yix_I (by omega) (by omega)
  have c4 : (yI p).toNatClampNeg = p := yI_clamp (by omega)
  have f3 : (t.sA (7 + 10) (ysent D D.bp (t.A (7 + 10)))).A 10 p = D.kd p := C1.1.kd p (by omega)
  have f4 : (t.sA (7 + 10) (ysent D D.bp (t.A (7 + 10)))).A 17 p = yrow D D.bp p := by
    show (t.sA 17 _).A 17 p = _
    rw [ysA_same]
    exact yrow_eq hp
  refine ⟨_, fun Q => ?_, C1, F1.mono (fun a h => by omega)⟩
  show G (d + 3) 103 0 [some (.ref 0), some (.int (yI p))] [] (yemb t) Q ↔ _
  unfold yorg
  generalize hT : t.sA (7 + 10) (ysent D D.bp (t.A (7 + 10))) = u at *
  by_cases hk : D.kd p = 1
  · simp only [s_103_0, s_103_1, s_103_2, s_103_3, s_103_4, s_103_5, s_103_6, s_103_6i, s_103_9, s_103_10, s_103_11, s_103_12, s_103_13, s_103_14, s_103_15, s_103_16, s_103_17, s_103_18, s_103_19, s_103_20, s_103_21, s_103_22, s_103_23, s_103_24, s_103_25, s_103_26, s_103_27, s_103_28, s_103_29, yO_0, yO_7, yA_10, yn_10, g1, hc, ifbn, if_true, g2, c3, c4, f3, hk, ne_eq, not_true_eq_false, if_false, Gk_v, Gk_n, xcat_nil, xcat_i, xcat_r, xcat_l, xcat_d, Nat.zero_le, Nat.reduceAdd, Nat.reduceLeDiff, true_and, and_true, ykl_i, ykl_r, ykl_n, ykl_l]
  · simp only [s_103_0, s_103_1, s_103_2, s_103_3, s_103_4, s_103_5, s_103_6, s_103_6i, s_103_9, s_103_10, s_103_11, s_103_12, s_103_13, s_103_14, s_103_15, s_103_16, s_103_17, s_103_18, s_103_19, s_103_20, s_103_21, s_103_22, s_103_23, s_103_24, s_103_25, s_103_26, s_103_27, s_103_28, s_103_29, yO_0, yO_7, yA_10, yn_10, yA_17, yn_17, g1, hc, ifbn, if_true, g2, c3, c4, f3, f4, hk, ne_eq, not_false_eq_true, if_false, Gk_v, Gk_n, xcat_nil, xcat_i, xcat_r, xcat_l, xcat_d, Nat.zero_le, Nat.reduceAdd, Nat.reduceLeDiff, true_and, and_true, ykl_i, ykl_r, ykl_n, ykl_l]
theorem q_103t (C : yCI t D k E s0 s1 n B eo en) {p : Int32} (hc : yisp D p = false) (hz : t.z.1.1 < 900000) : Ra (d + 3) 103 [.ref 0, .int p] (yemb t) (.inr 1) (yemb t.bp) := by
  intro Q
  have g1 := fun Q' => m_32' (d := d + 2) C.1 (j := p) Q'
  rw [hc] at g1
  show G (d + 3) 103 0 [some (.ref 0), some (.int p)] [] (yemb t) Q ↔ _
  simp only [s_103_0, s_103_1, s_103_2, s_103_3, s_103_4, s_103_5, s_103_6, s_103_6i, s_103_9, s_103_10, s_103_11, s_103_12, s_103_13, s_103_14, s_103_15, s_103_16, s_103_17, s_103_18, s_103_19, s_103_20, s_103_21, s_103_22, s_103_23, s_103_24, s_103_25, s_103_26, s_103_27, s_103_28, s_103_29, yO_0, yO_7, g1, ifbn, Bool.false_eq_true, if_false, xbump_z hz, xbump_emb, Gk_v, Gk_n, xcat_nil, xcat_i, xcat_r, xcat_l, xcat_d, Nat.zero_le, Nat.reduceAdd, Nat.reduceLeDiff, true_and, and_true, ykl_i, ykl_r, ykl_n, ykl_l]
theorem yDok_ogF {X : yD} (h : yDok X) {F : Nat → Int32} (hF : ∀ q, q < X.n → F q = -1 ∨ F q = X.og q) : yDok (X.sog F) := by
  refine ⟨h.n1, h.n40, h.f1, h.f6, h.fp0, h.fpm, h.fpn, ?_, h.2.2.2.2.2.2.2.2⟩
  intro q hq
  show F q = -1 ∨ ∃ r, r < 40 ∧ F q = yI r
  rcases hF q hq with e | e
  · exact Or.inl e
  · rw [e]
    exact h.ogm q hq
theorem ysog_sog {X : yD} {f g : Nat → Int32} : (X.sog f).sog g = X.sog g := rfl
theorem yN_sog2 {S : Nat → Int32} {p : Nat} {v : Int32} {X : yD} {f : Nat → Int32} (h : yN S (X.sog f)) (hp : p < 40) : yN (upd S (8 + 8 * p + 6) v) (X.sog (upd f p v)) := by
  have h1 := yN_sog (v := v) h hp
  rw [ysog_og, ysog_sog] at h1
  exact h1
theorem l_197 {x1 : Int32} (hD : yDok D) : ∀ m i (t : yT) (F : Nat → Int32), yM (t.A 162) (D.sog F) → i + m = D.n → (∀ q, F q = if q < i then -1 else D.og q) → ∃ u, Gg (d + 5) 197 17 [some (.ref 160), some (.int x1), some (.int (yI i))] [] (yemb t) 30 [some (.ref 160), some (.int x1), some (.int (yI D.n))] [] (yemb u) ∧ (yM (u.A 162) (D.sog (fun q => if q < D.n then -1 else D.og q)) ∧ yFr (fun a => a = 162) t u) := by
  intro m
  induction m with
  | zero =>
    intro i t F M hi hF
    have hn : t.A 162 0 = yI D.n := M.n
    have e : i = D.n := by omega
    have h3 : yI D.n ≤ yI D.n := Int32.le_refl _
    have eF : F = fun q => if q < D.n then -1 else D.og q := by
      funext q
      rw [hF q, e]
    refine ⟨t, fun Q => ?_, by rw [← eF]; exact M, yFr.rfl'⟩
    rw [s_197_17]
    simp only [s_197_0, s_197_1, s_197_2, s_197_3, s_197_4, s_197_5, s_197_6, s_197_7, s_197_8, s_197_9, s_197_10, s_197_11, s_197_12, s_197_13, s_197_14, s_197_15, s_197_16, s_197_18, s_197_19, s_197_20, s_197_21, s_197_22, s_197_23, s_197_24, s_197_25, s_197_26, s_197_27, s_197_28, s_197_29, s_197_31, s_197_32, s_197_33, s_197_34, s_197_35, s_197_36, s_197_37, s_197_38, s_197_39, s_197_40, s_197_41, s_197_42, s_197_43, s_197_44, yO_160, yA_162, yn_162, yix0, ycl0, hn, e, h3, if_true, Gk_v, Gk_n, xcat_nil, xcat_i, xcat_r, xcat_l, xcat_d, Nat.zero_le, Nat.reduceAdd, Nat.reduceLeDiff, true_and, and_true, ykl_i, ykl_r, ykl_n, ykl_l]
  | succ m ih =>
    intro i t F M hi hF
    have hn : t.A 162 0 = yI D.n := M.n
    have hn40 : D.n ≤ 40 := hD.n40
    have h3 : ¬ yI D.n ≤ yI i := fun h => absurd ((yI_le (by omega) (by omega)).mp h) (by omega)
    have h4 : yI i + 1 = yI (i + 1) := yI_add
    have hF' : ∀ q, upd F i (-1) q = if q < i + 1 then -1 else D.og q := fun q => by
      rw [yupd_if, hF q]
      by_cases e : q = i
      · rw [if_pos e, if_pos (by omega)]
      · rw [if_neg e]
        by_cases e2 : q < i
        · rw [if_pos e2, if_pos (by omega)]
        · rw [if_neg e2, if_neg (by omega)]
    have M1 : yM ((t.s1 162 (8 + 8 * i + 6) (-1)).A 162) (D.sog (upd F i (-1))) := ⟨yDok_ogF hD (fun q hq => by
      rw [hF' q]
      split
      · exact Or.inl rfl
      · exact Or.inr rfl), by rw [ys1_upd]; exact yN_sog2 M.v (by omega)⟩
    obtain ⟨u, hu, Mu, Fu⟩ := ih (i + 1) _ _ M1 (by omega) hF'
    have hs : ∀ Q', Cl (d + 4) 163 [.ref 160, .int (yI i), .int 6, .int (-1)] (yemb t) Q' ↔ Q' (.inl none) (yemb (t.s1 162 (8 + 8 * i + 6) (-1))) := fun Q' => m_163 (w := 6) (by omega) (by omega)
    refine ⟨u, fun Q => ?_, Mu, (yFr_s1 (P := fun a => a = 162) rfl).trans Fu (fun a h => by omega)⟩
    rw [s_197_17]
    simp only [s_197_0, s_197_1, s_197_2, s_197_3, s_197_4, s_197_5, s_197_6, s_197_7, s_197_8, s_197_9, s_197_10, s_197_11, s_197_12, s_197_13, s_197_14, s_197_15, s_197_16, s_197_18, s_197_19, s_197_20, s_197_21, s_197_22, s_197_23, s_197_24, s_197_25, s_197_26, s_197_27, s_197_28, s_197_29, s_197_31, s_197_32, s_197_33, s_197_34, s_197_35, s_197_36, s_197_37, s_197_38, s_197_39, s_197_40, s_197_41, s_197_42, s_197_43, s_197_44, yO_160, yA_162, yn_162, yix0, ycl0, hn, h3, if_false, hs, h4, hu, Gk_v, Gk_n, xcat_nil, xcat_i, xcat_r, xcat_l, xcat_d, Nat.zero_le, Nat.reduceAdd, Nat.reduceLeDiff, true_and, and_true, ykl_i, ykl_r, ykl_n, ykl_l]
theorem p_197 (M : yMI t D k E s0 s1 n B eo en) {p : Nat} (hp : p < D.n) (hc : yisp D (yI p) = true) : ∃ u, Ra (d + 5) 197 [.ref 160, .int (yI p)] (yemb t) (.inl (some (.int (yorg D p)))) (yemb u) ∧ (yMI u D k E s0 s1 n B eo en ∧ (u.A 160 0 = 0 ∧ yFm t u)) := by
  have hn40 := M.1.ok.n40
  have hD := M.1.ok
  have M0 := yMI_s1 (j := 0) (v := 0) M (by decide)
  have g1 := fun Q' => m_185' (d := d + 3) M0.1 (p := yI p) ys1_same Q'
  rw [hc] at g1
  have n162 : (340 : Nat) ≤ yn 162 := by rw [yn_162]; omega
  have n164 : (340 : Nat) ≤ yn 164 := by rw [yn_164]; omega
  have h1 := fun Q' => m_127 (d := d + 4) (n := 340) yA_162 yA_164 (by decide) n162 n164 (by decide) (t.s1 160 0 0) Q'
  generalize hT : (t.s1 160 0 0).sA 164 (fun j => if j < 340 then (t.s1 160 0 0).A 162 j else (t.s1 160 0 0).A 164 j) = t1 at *
  have F1 : yFr (fun a => a = 164) (t.s1 160 0 0) t1 := by
    rw [← hT]
    exact yFr_sA rfl
  have M1 : yM (t1.A 162) (D.sog D.og) := by
    rw [F1.A (by decide)]
    exact M0.1
  obtain ⟨u2, h2, M2, F2⟩ := l_197 (d := d) (x1 := yI p) hD D.n 0 t1 D.og M1 (Nat.zero_add _) (fun q => by rw [if_neg (Nat.not_lt_zero _)])
  obtain ⟨u3, h3, M3, F3⟩ := m_179 (d := d) M2
  generalize hX : D.sog (fun q => if q < D.n then -1 else D.og q) = X at *
  have x1 : X.n = D.n := by rw [← hX]; rfl
  have x2 : X.kd = D.kd := by rw [← hX]; rfl
  have x3 : X.pd = D.pd := by rw [← hX]; rfl
  have x4 : X.fr = D.fr := by rw [← hX]; rfl
  have x5 : X.bw = D.bw := by rw [← hX]; rfl
  have x6 : X.cn = D.cn := by rw [← hX]; rfl
  have x7 : X.cg = D.cg := by rw [← hX]; rfl
  have x8 : X.og p = -1 := by rw [← hX]; exact if_pos hp
  have eu := ydue_eq X
  have hog : (ypassD (ydue X)).og p = yorg D p := by
    rw [eu]
    exact yorg_eq (yDok_sdu M2.ok) (by rw [ysdu_n, x1]) (by rw [ysdu_kd, x2]) (by rw [ysdu_pd, x3]) (by rw [ysdu_fr, x4]) (by rw [ysdu_bw, x5]) hp (by rw [ysdu_og, x8])
  have g4 : ∀ Q', Cl (d + 4) 162 [.ref 160, .int (yI p), .int 6] (yemb u3) Q' ↔ Q' (.inl (some (.int (yorg D p)))) (yemb u3) := fun Q' => by
    have h := mo_og (d := d + 3) (Q := Q') M3 (p := p) (by omega)
    rw [hog] at h
    exact h
  have h5 := fun Q' => m_127 (d := d + 4) (n := 340) yA_164 yA_162 (by decide) n164 n162 (by decide) u3 Q'
  have e164 : u3.A 164 = t1.A 164 := by rw [F3.A (by omega), F2.A (by omega)]
  have hps := ypassD_same (ydue X)
  have Mb : yM ((u3.sA 162 (fun j => if j < 340 then u3.A 164 j else u3.A 162 j)).A 162) D := by
    refine ⟨hD, ?_⟩
    refine yN_back hD M0.1.v M3.v ?_ ?_ (fun j => ?_)
    · rw [hps.2.2.2.2.2.2.2.2.2.2.2.1, eu, ysdu_cn, x6]
    · rw [hps.2.2.2.2.2.2.2.2.2.2.2.2, eu, ysdu_cg, x7]
    · rw [ysA_same, e164, ← hT, ysA_same]
      by_cases hj : j < 340
      · simp only [hj, if_true]
      · simp only [hj, if_false]
  have F4 : yFr (fun a => a = 162) u3 (u3.sA 162 (fun j => if j < 340 then u3.A 164 j else u3.A 162 j)) := yFr_sA rfl
  have Ft : yFr (fun a => a = 162 ∨ a = 164 ∨ a = 180) (t.s1 160 0 0) (u3.sA 162 (fun j => if j < 340 then u3.A 164 j else u3.A 162 j)) :=
    ((F1.trans F2 (P'' := fun a => a = 162 ∨ a = 164 ∨ a = 180) (fun a h => by omega)).trans F3 (P'' := fun a => a = 162 ∨ a = 164 ∨ a = 180) (fun a h => by omega)).trans F4 (fun a h => by omega)
  refine ⟨_, fun Q => ?_, yMI_D M0 Ft (fun a h => by omega) Mb, by rw [Ft.A (by omega)]; exact ys1_same, yFm_trans yFm_s1 (yFm_fr Ft (fun a h => by omega))⟩
  show G (d + 5) 197 0 [some (.ref 160), some (.int (yI p)), none] [] (yemb t) Q ↔ _
  have h2' := h2 Q
  have c340 : yI 340 = 340 := rfl
  rw [c340] at h1 h5
  simp only [s_197_0, s_197_1, s_197_2, s_197_3, s_197_4, s_197_5, s_197_6, s_197_7, s_197_8, s_197_9, s_197_10, s_197_11, s_197_12, s_197_13, s_197_14, s_197_15, s_197_16, s_197_31, s_197_32, s_197_33, s_197_34, s_197_35, s_197_36, s_197_37, s_197_38, s_197_39, s_197_40, s_197_41, s_197_42, s_197_43, s_197_44, yO_160, g1, ifb, Bool.not_true, Bool.false_eq_true, if_true, if_false, h1, Gk_v, Gk_n, xcat_nil, xcat_i, xcat_r, xcat_l, xcat_d, Nat.zero_le, Nat.reduceAdd, Nat.reduceLeDiff, true_and, and_true, ykl_i, ykl_r, ykl_n, ykl_l]
  rw [show (0 : Int32) = yI 0 from rfl, h2']
  simp only [s_197_30, s_197_31 yO_160, s_197_32, s_197_33, s_197_34, s_197_35 yO_160, s_197_36, s_197_37, s_197_38 yO_160, s_197_39, s_197_40 yO_160, s_197_41, s_197_42, s_197_43, s_197_44, h3, g4, h5, Gk_v, Gk_n, xcat_nil, xcat_i, xcat_r, xcat_l, xcat_d, Nat.zero_le, Nat.reduceAdd, Nat.reduceLeDiff, true_and, and_true, ykl_i, ykl_r, ykl_n, ykl_l]
theorem p_197t (M : yMI t D k E s0 s1 n B eo en) {p : Int32} (hc : yisp D p = false) : ∃ u, Ra (d + 5) 197 [.ref 160, .int p] (yemb t) (.inl (some (.int 0))) (yemb u) ∧ (yMI u D k E s0 s1 n B eo en ∧ (u.A 160 0 = 1 ∧ yFm t u)) := by
  have M0 := yMI_s1 (j := 0) (v := 0) M (by decide)
  have g1 := fun Q' => m_185' (d := d + 3) M0.1 (p := p) ys1_same Q'
  rw [hc] at g1
  refine ⟨(t.s1 160 0 0).s1 160 0 1, fun Q => ?_, yMI_s1 M0 (by decide), ys1_same, yFm_trans yFm_s1 yFm_s1⟩
  show G (d + 5) 197 0 [some (.ref 160), some (.int p), none] [] (yemb t) Q ↔ _
  simp only [s_197_0, s_197_1, s_197_2, s_197_3, s_197_4, s_197_5, s_197_6, s_197_7, s_197_8, s_197_9, s_197_10, s_197_11, s_197_12, s_197_13, s_197_14, s_197_15, s_197_16, s_197_17, s_197_18, s_197_19, s_197_20, s_197_21, s_197_22, s_197_23, s_197_24, s_197_25, s_197_26, s_197_27, s_197_28, s_197_29, s_197_30, s_197_31, s_197_32, s_197_33, s_197_34, s_197_35, s_197_36, s_197_37, s_197_38, s_197_39, s_197_40, s_197_41, s_197_42, s_197_43, s_197_44, yO_160, g1, ifb, Bool.not_false, if_true, Gk_v, Gk_n, xcat_nil, xcat_i, xcat_r, xcat_l, xcat_d, Nat.zero_le, Nat.reduceAdd, Nat.reduceLeDiff, true_and, and_true, ykl_i, ykl_r, ykl_n, ykl_l]
theorem k_232 (I : yInv t) (hz : t.z.1.1 < 900000) (p : Int32) : ∃ u1 u c v, Ra (d + 4) 232 [.ref 0, .int p, .ref 183] (yemb t) (.inl (some (.int c))) (yemb u1) ∧ (Ra (d + 5) 197 [.ref 160, .int p] (yemb u1) (.inl (some (.int v))) (yemb u) ∧ yOK t u c v.toInt64) := by
  obtain ⟨⟨D, k, E, s0, s1, n, B, eo, en, C, M⟩, Z⟩ := I
  cases hc : yisp D p
  · obtain ⟨u, hu, M1, h0, Fm⟩ := p_197t (d := d) (yMI_c M yFc_bp) hc
    exact ⟨_, u, 1, 0, h_232_1 (q_103t C hc hz), hu, yOK_of Z yFc_bp (yCI_bp C) Fm M1 h0 (fun h => absurd h yne10)⟩
  · obtain ⟨q, hq, rfl⟩ := yisp_of C.1.ok.n40 hc
    obtain ⟨u1, h1, C1, F1⟩ := q_103 (d := d) C hq hc
    have Fc := yFc_out (j := 0) (v := (yorg D q).toInt64) (yFc_fr F1 (fun a h => Or.inl h))
    obtain ⟨u, hu, M1, h0, Fm⟩ := p_197 (d := d) (yMI_c M Fc) hq hc
    exact ⟨_, u, 0, _, h_232 h1, hu, yOK_of Z Fc (yCI_out C1) Fm M1 h0 (fun _ => yoL)⟩
end
