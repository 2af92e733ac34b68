/-! ===== forecasts: origin, wrongIn ===== -/
theorem ydl_eq {l : Nat} : ∀ m p (D : yD), ydl l m p D = D.sdu (fun q => if p ≤ q ∧ q < p + m then ydueC D.cn D.cg l (D.fm q) else D.du q) := by
  intro m
  induction m with
  | zero =>
    intro p D
    have e : (fun q => if p ≤ q ∧ q < p + 0 then ydueC D.cn D.cg l (D.fm q) else D.du q) = D.du := by
      funext q
      rw [if_neg (by omega)]
    rw [e]
    rfl
  | succ m ih =>
    intro p D
    rw [ydl, ih]
    have e : ∀ (f g : Nat → Int32), (D.sdu f).sdu g = D.sdu g := fun _ _ => rfl
    rw [e]
    congr 1
    funext q
    rw [ysdu_cn, ysdu_cg, ysdu_fm, ysdu_du]
    by_cases h1 : q = p
    · rw [if_neg (by omega), if_pos (by omega), h1, yupd_same]
    · by_cases h2 : p + 1 ≤ q ∧ q < p + 1 + m
      · rw [if_pos h2, if_pos (by omega)]
      · rw [if_neg h2, if_neg (by omega), yupd_ne h1]
theorem ydue_eq (D : yD) : ydue D = D.sdu (fun q => if q < D.n then ydueC D.cn D.cg (yll D) (D.fm q) else D.du q) := by
  unfold ydue
  rw [ydl_eq]
  congr 1
  funext q
  by_cases h : q < D.n
  · rw [if_pos (by omega), if_pos h]
  · rw [if_neg (by omega), if_neg h]
/-- what the row's going along leaves as it is -/
abbrev ysame (D X : yD) : Prop := X.n = D.n ∧ (X.f = D.f ∧ (X.un = D.un ∧ (X.lv = D.lv ∧ (X.bw = D.bw ∧ (X.kd = D.kd ∧ (X.pd = D.pd ∧ (X.du = D.du ∧ (X.fm = D.fm ∧ (X.fp = D.fp ∧ (X.fl = D.fl ∧ (X.cn = D.cn ∧ X.cg = D.cg)))))))))))
theorem ysame_tkS {D X : yD} (h : ysame D X) {p : Nat} {c f : Int32} : ysame D (ytkS X p c f) := h
theorem ysame_fr {D X : yD} (h : ysame D X) {v : Nat → Int32} : ysame D (X.sfr v) := h
theorem ygo_same : ∀ m p f (D X : yD), ysame D X → ysame D (ygo m p f X) := by
  intro m
  induction m with
  | zero => intro p f D X h; exact h
  | succ m ih =>
    intro p f D X h
    rw [ygo]
    split
    · exact ih _ _ _ _ h
    · split
      · split
        · exact ysame_fr h
        · exact ih _ _ _ _ (ysame_tkS h)
      · exact h
theorem ysame_rfl {D : yD} : ysame D D := ⟨rfl, rfl, rfl, rfl, rfl, rfl, rfl, rfl, rfl, rfl, rfl, rfl, rfl⟩
theorem ypassD_same (D : yD) : ysame D (ypassD D) := ygo_same _ _ _ _ _ ysame_rfl
theorem ydue_pass (D : yD) : ydue (ypassD (ydue D)) = ypassD (ydue D) := by
  obtain ⟨h1, -, -, h4, -, -, -, h8, h9, -, -, h12, h13⟩ := ypassD_same (ydue D)
  rw [ydue_eq (ypassD (ydue D)), h1, h8, h9, h12, h13]
  have e0 : yll (ypassD (ydue D)) = yll D := by
    unfold yll
    rw [h4, ydue_eq, ysdu_lv]
  rw [e0, ydue_eq D, ysdu_n, ysdu_fm, ysdu_cn, ysdu_cg, ysdu_du]
  generalize hX : ypassD (D.sdu fun q => if q < D.n then ydueC D.cn D.cg (yll D) (D.fm q) else D.du q) = X
  have h8' : X.du = (fun q => if q < D.n then ydueC D.cn D.cg (yll D) (D.fm q) else D.du q) := by
    rw [← hX, (ypassD_same _).2.2.2.2.2.2.2.1, ysdu_du]
  have e1 : (fun q => if q < D.n then ydueC D.cn D.cg (yll D) (D.fm q) else (if q < D.n then ydueC D.cn D.cg (yll D) (D.fm q) else D.du q)) = X.du := by
    rw [h8']
    funext q
    split <;> rfl
  rw [e1]
  rfl
def ypasses : Nat → yD → yD
  | 0, D => D
  | m + 1, D => ypasses m (ypassD D)
theorem ypassD_ok {D : yD} (h : yDok D) : yDok (ypassD D) := ygo_ok _ _ _ _ h
theorem ydue_ok {D : yD} (h : yDok D) : yDok (ydue D) := by
  rw [ydue_eq]
  exact yDok_sdu h
theorem ytk_og {r : Nat → Int32} {q : Nat} : ∀ n p (X : yD), p ≤ q → q < p + n → (ytk r n p X).og q = if r q < 0 then X.og q else if X.kd q = 1 then X.og q else r q := by
  have lo : ∀ n p (X : yD), q < p → (ytk r n p X).og q = X.og q := by
    intro n
    induction n with
    | zero => intro p X _; rfl
    | succ n ih =>
      intro p X h
      rw [ytk]
      split
      · exact ih _ _ (by omega)
      · split
        · rw [ih _ _ (by omega), ysfr_og]
        · rw [ih _ _ (by omega), ytkS_og, yupd_ne (by omega)]
  intro n
  induction n with
  | zero => intro p X h1 h2; omega
  | succ n ih =>
    intro p X h1 h2
    rw [ytk]
    by_cases e : q = p
    · rw [← e]
      split
      · exact lo _ _ _ (by omega)
      · split
        · rw [lo _ _ _ (by omega), ysfr_og]
        · rw [lo _ _ _ (by omega), ytkS_og, yupd_same]
    · split
      · exact ih _ _ (by omega) (by omega)
      · split
        · rw [ih _ _ (by omega) (by omega), ysfr_og, ysfr_kd]
        · rw [ih _ _ (by omega) (by omega), ytkS_og, ytkS_kd, yupd_ne e]
theorem yrw_same {D X : yD} {b : Nat → Bool} (h1 : X.n = D.n) (h2 : X.kd = D.kd) (h3 : X.pd = D.pd) (h4 : X.fr = D.fr) : ∀ n p f r, yrw X b n p f r = yrw D b n p f r := by
  intro n
  induction n with
  | zero => intro p f r; rfl
  | succ n ih =>
    intro p f r
    have hb : ∀ p f, ybeg X b p f = ybeg D b p f := by
      intro p f
      unfold ybeg ystut
      rw [h1, h2, h3, h4]
    simp only [yrw, h1, hb, ih]
theorem yrow_same {D X : yD} {b : Nat → Bool} (h1 : X.n = D.n) (h2 : X.kd = D.kd) (h3 : X.pd = D.pd) (h4 : X.fr = D.fr) : yrow X b = yrow D b := by
  unfold yrow ysent
  rw [yrw_same h1 h2 h3 h4, h1]
/-- the origin of what a pixel would take -/
def yorg (D : yD) (p : Nat) : Int32 := if D.kd p = 1 then -1 else yrow D D.bp p
theorem yorg_eq {D X : yD} (hX : yDok X) (h1 : X.n = D.n) (h2 : X.kd = D.kd) (h3 : X.pd = D.pd) (h4 : X.fr = D.fr) (h5 : X.bw = D.bw) {p : Nat} (hp : p < D.n) (ho : X.og p = -1) : (ypassD X).og p = yorg D p := by
  have hb : X.bp = D.bp := by
    funext q
    unfold yD.bp
    rw [h5]
  have hn40 := hX.n40
  rw [← ytaken_go hX]
  unfold ytaken
  rw [ytk_og X.n 0 X (Nat.zero_le _) (by omega), ho, hb, yrow_same h1 h2 h3 h4, h2]
  unfold yorg
  by_cases hk : D.kd p = 1
  · rw [if_pos hk]
    split <;> rfl
  · rw [if_neg hk]
    rcases yrow_val (b := D.bp) (D := D) (by omega) hp with h | ⟨q, hq, h⟩
    · rw [h, if_pos (by decide)]
    · rw [h, if_neg (yI_nneg (by omega))]
/-- back from aside -/
theorem yN_back {S0 S1 S2 : Nat → Int32} {D X : yD} (hD : yDok D) (N : yN S0 D) (N1 : yN S1 X) (h1 : X.cn = D.cn) (h2 : X.cg = D.cg) (hS : ∀ j, S2 j = if j < 340 then S0 j else S1 j) : yN S2 D := by
  have h6 := hD.f6
  have lo : ∀ j, j < 340 → S2 j = S0 j := fun j h => by rw [hS, if_pos h]
  have hi : ∀ j, 340 ≤ j → S2 j = S1 j := fun j h => by rw [hS, if_neg (by omega)]
  refine ⟨?_, ?_, ?_, ?_, ?_, ?_, ?_, ?_, ?_, ?_, ?_, ?_, ?_, ?_, ?_, ?_, ?_, ?_, ?_⟩
  · rw [lo _ (by omega)]; exact N.n
  · rw [lo _ (by omega)]; exact N.un
  · rw [lo _ (by omega)]; exact N.lv
  · rw [lo _ (by omega)]; exact N.f
  · rw [lo _ (by omega)]; exact N.sh
  · rw [lo _ (by omega)]; exact N.ac
  · rw [lo _ (by omega)]; exact N.hc
  · rw [lo _ (by omega)]; exact N.nc
  · intro p hp; rw [lo _ (by omega)]; exact N.kd p hp
  · intro p hp; rw [lo _ (by omega)]; exact N.pd p hp
  · intro p hp; rw [lo _ (by omega)]; exact N.fr p hp
  · intro p hp; rw [lo _ (by omega)]; exact N.tk p hp
  · intro p hp; rw [lo _ (by omega)]; exact N.du p hp
  · intro p hp; rw [lo _ (by omega)]; exact N.og p hp
  · intro p hp; rw [lo _ (by omega)]; exact N.fm p hp
  · intro p hp; rw [lo _ (by omega)]; exact N.bp p hp
  · intro g hg
    have hg1 : g < D.f := hg
    rw [lo _ (by omega)]; exact N.fp g hg
  · intro g hg
    have hg1 : g < D.f := hg
    rw [lo _ (by omega)]; exact N.fl g hg
  · intro i hi'
    have hi1 : i < D.cn := hi'
    rw [hi _ (by omega), hi _ (by omega)]
    have := N1.cc i (by rw [h1]; exact hi1)
    rw [h2] at this
    exact this
section
variable {d : Nat} {t : yT} {D : yD} {k : Nat} {E : Nat → yD} {s0 s1 : Option yD} {n : Nat} {B : Nat → Nat} {eo en : Int32}
theorem q_103 (C : yCI t D k E s0 s1 n B eo en) {p : Nat} (hp : p < D.n) (hc : yisp D (yI p) = true) : ∃ u, Ra (d + 3) 103 [.ref 0, .int (yI p)] (yemb t) (.inl (some (.int (yorg D p)))) (yemb u) ∧ (yCI u D k E s0 s1 n B eo en ∧ yFr (fun a => a < 160) t u) := by
  have hn40 := C.1.ok.n40
  have F1 : yFr (fun a => a = 17) t (t.sA (7 + 10) (ysent D D.bp (t.A (7 + 10)))) := yFr_sA rfl
  have C1 := yCI_fr C F1 (fun a h => by omega)
  have g1 := fun Q' => m_32' (d := d + 2) C.1 (j := yI p) Q'
  have g2 := fun Q' => m_55 (d := d) (Q := Q') C.1 C.1.bp
  have c3 : yix (yI p) 40 := yix_I (by omega) (by omega)
  have c4 : (yI p).toNatClampNeg = p := yI_clamp (by omega)
  have f3 : (t.sA (7 + 10) (ysent D D.bp (t.A (7 + 10)))).A 10 p = D.kd p := C1.1.kd p (by omega)
  have f4 : (t.sA (7 + 10) (ysent D D.bp (t.A (7 + 10)))).A 17 p = yrow D D.bp p := by
    show (t.sA 17 _).A 17 p = _
    rw [ysA_same]
    exact yrow_eq hp
  refine ⟨_, fun Q => ?_, C1, F1.mono (fun a h => by omega)⟩
  show G (d + 3) 103 0 [some (.ref 0), some (.int (yI p))] [] (yemb t) Q ↔ _
  unfold yorg
  generalize hT : t.sA (7 + 10) (ysent D D.bp (t.A (7 + 10))) = u at *
  by_cases hk : D.kd p = 1
  · simp only [s_103_0, s_103_1, s_103_2, s_103_3, s_103_4, s_103_5, s_103_6, s_103_6i, s_103_9, s_103_10, s_103_11, s_103_12, s_103_13, s_103_14, s_103_15, s_103_16, s_103_17, s_103_18, s_103_19, s_103_20, s_103_21, s_103_22, s_103_23, s_103_24, s_103_25, s_103_26, s_103_27, s_103_28, s_103_29, yO_0, yO_7, yA_10, yn_10, g1, hc, ifbn, if_true, g2, c3, c4, f3, hk, ne_eq, not_true_eq_false, if_false, Gk_v, Gk_n, xcat_nil, xcat_i, xcat_r, xcat_l, xcat_d, Nat.zero_le, Nat.reduceAdd, Nat.reduceLeDiff, true_and, and_true, ykl_i, ykl_r, ykl_n, ykl_l]
  · simp only [s_103_0, s_103_1, s_103_2, s_103_3, s_103_4, s_103_5, s_103_6, s_103_6i, s_103_9, s_103_10, s_103_11, s_103_12, s_103_13, s_103_14, s_103_15, s_103_16, s_103_17, s_103_18, s_103_19, s_103_20, s_103_21, s_103_22, s_103_23, s_103_24, s_103_25, s_103_26, s_103_27, s_103_28, s_103_29, yO_0, yO_7, yA_10, yn_10, yA_17, yn_17, g1, hc, ifbn, if_true, g2, c3, c4, f3, f4, hk, ne_eq, not_false_eq_true, if_false, Gk_v, Gk_n, xcat_nil, xcat_i, xcat_r, xcat_l, xcat_d, Nat.zero_le, Nat.reduceAdd, Nat.reduceLeDiff, true_and, and_true, ykl_i, ykl_r, ykl_n, ykl_l]
theorem q_103t (C : yCI t D k E s0 s1 n B eo en) {p : Int32} (hc : yisp D p = false) (hz : t.z.1.1 < 900000) : Ra (d + 3) 103 [.ref 0, .int p] (yemb t) (.inr 1) (yemb t.bp) := by
  intro Q
  have g1 := fun Q' => m_32' (d := d + 2) C.1 (j := p) Q'
  rw [hc] at g1
  show G (d + 3) 103 0 [some (.ref 0), some (.int p)] [] (yemb t) Q ↔ _
  simp only [s_103_0, s_103_1, s_103_2, s_103_3, s_103_4, s_103_5, s_103_6, s_103_6i, s_103_9, s_103_10, s_103_11, s_103_12, s_103_13, s_103_14, s_103_15, s_103_16, s_103_17, s_103_18, s_103_19, s_103_20, s_103_21, s_103_22, s_103_23, s_103_24, s_103_25, s_103_26, s_103_27, s_103_28, s_103_29, yO_0, yO_7, g1, ifbn, Bool.false_eq_true, if_false, xbump_z hz, xbump_emb, Gk_v, Gk_n, xcat_nil, xcat_i, xcat_r, xcat_l, xcat_d, Nat.zero_le, Nat.reduceAdd, Nat.reduceLeDiff, true_and, and_true, ykl_i, ykl_r, ykl_n, ykl_l]
theorem yDok_ogF {X : yD} (h : yDok X) {F : Nat → Int32} (hF : ∀ q, q < X.n → F q = -1 ∨ F q = X.og q) : yDok (X.sog F) := by
  refine ⟨h.n1, h.n40, h.f1, h.f6, h.fp0, h.fpm, h.fpn, ?_, h.2.2.2.2.2.2.2.2⟩
  intro q hq
  show F q = -1 ∨ ∃ r, r < 40 ∧ F q = yI r
  rcases hF q hq with e | e
  · exact Or.inl e
  · rw [e]
    exact h.ogm q hq
theorem ysog_sog {X : yD} {f g : Nat → Int32} : (X.sog f).sog g = X.sog g := rfl
theorem yN_sog2 {S : Nat → Int32} {p : Nat} {v : Int32} {X : yD} {f : Nat → Int32} (h : yN S (X.sog f)) (hp : p < 40) : yN (upd S (8 + 8 * p + 6) v) (X.sog (upd f p v)) := by
  have h1 := yN_sog (v := v) h hp
  rw [ysog_og, ysog_sog] at h1
  exact h1
end
