/-! ===== the due colors, on both sides ===== -/
def ydl (l : Nat) : Nat → Nat → yD → yD
  | 0, _, D => D
  | m + 1, p, D => ydl l m (p + 1) (D.sdu (upd D.du p (ydueC D.cn D.cg l (D.fm p))))
def yll (D : yD) : Nat := D.lv.toNatClampNeg
theorem yll_eq {D : yD} (h : yDok D) : D.lv = yI (yll D) ∧ yll D < 256 := by
  obtain ⟨l, hl, e⟩ := h.lvv
  have : yll D = l := by
    unfold yll
    rw [e, yI_clamp (by omega)]
  rw [this]
  exact ⟨e, hl⟩
/-- the due colors worked out anew -/
def ydue (D : yD) : yD := ydl (yll D) D.n 0 D
theorem ydl_du {l : Nat} : ∀ m p (D : yD), ∃ f, ydl l m p D = D.sdu f := by
  intro m
  induction m with
  | zero => intro p D; exact ⟨D.du, rfl⟩
  | succ m ih =>
    intro p D
    obtain ⟨f, hf⟩ := ih (p + 1) (D.sdu (upd D.du p (ydueC D.cn D.cg l (D.fm p))))
    exact ⟨f, hf⟩
theorem yo_ge {o : Nat} (h : yisO 4 o) : 7 ≤ o := by
  have h1 := ystr h
  simp only [ystrips, List.mem_cons, List.not_mem_nil, or_false] at h1
  omega
section
variable {d : Nat}
theorem l_53 {o l n : Nat} (hl : l < 256) : ∀ m p (t : yT) (D : yD), yW t o D → yDm t D.cn D.cg l → D.n = n → p + m = n → ∃ u, Ga (d + 3) 53 8 [some (.ref o), some (.ref 3), some (.int (yI p))] [] (yemb t) (.inl none) (yemb u) ∧ (yW u o (ydl l m p D) ∧ yFr (fun a => a = 4 ∨ a = 5 ∨ a = o + 2) t u) := by
  intro m
  induction m with
  | zero =>
    intro p t D W K hn hp
    have hn40 := W.ok.n40
    have h1 : yI n ≤ yI p := (yI_le (by omega) (by omega)).mpr (by omega)
    refine ⟨t, fun Q => ?_, W, yFr.rfl'⟩
    rw [s_53_8]
    simp only [s_53_0, s_53_1, s_53_2, s_53_3, s_53_4, s_53_5, s_53_6, s_53_7, s_53_9, s_53_10, s_53_11, s_53_12, s_53_13, s_53_14, s_53_15, s_53_16, s_53_17, s_53_18, s_53_19, s_53_20, s_53_21, s_53_22, s_53_23, s_53_24, W.oo, W.n, hn, h1, if_true]
  | succ m ih =>
    intro p t D W K hn hp
    have hn40 := W.ok.n40
    have ho := yo_ge W.oo
    have h1 : ¬ yI n ≤ yI p := fun h => absurd ((yI_le (by omega) (by omega)).mp h) (by omega)
    have h2 : yix (yI p) 40 := yix_I (by omega) (by omega)
    have h3 : (yI p).toNatClampNeg = p := yI_clamp (by omega)
    have h4 : yI p + 1 = yI (p + 1) := yI_add
    obtain ⟨u1, hu1, K1, F1⟩ := m_2 (d := d) (c := D.fm p) W.ok.cok hl K
    have W1 : yW u1 o D := yW_fr W F1 (fun a _ _ (h : a = 4 ∨ a = 5) => by omega)
    have W2 : yW (u1.s1 (o + 2) p (ydueC D.cn D.cg l (D.fm p))) o (D.sdu (upd D.du p (ydueC D.cn D.cg l (D.fm p)))) := ⟨yDok_sdu W.ok, yV_sdu W1.v⟩
    have K2 : yDm (u1.s1 (o + 2) p (ydueC D.cn D.cg l (D.fm p))) D.cn D.cg l := yDm_fr K1 (yFr_s1 (P := fun a => a = o + 2) rfl) (by omega) (by omega)
    obtain ⟨u, hu, Wu, Fu⟩ := ih (p + 1) _ _ W2 K2 hn (by omega)
    refine ⟨u, fun Q => ?_, Wu, ?_⟩
    · rw [s_53_8]
      simp only [s_53_0, s_53_1, s_53_2, s_53_3, s_53_4, s_53_5, s_53_6, s_53_7, s_53_9, s_53_10, s_53_11, s_53_12, s_53_13, s_53_14, s_53_15, s_53_16, s_53_17, s_53_18, s_53_19, s_53_20, s_53_21, s_53_22, s_53_23, s_53_24, W.oo, W.n, hn, h1, if_false, yO_3, yAs_1 W.oo, yns_1 W.oo, yAs_2 W.oo, yns_2 W.oo, h2, h3, W.fm p (show p < 40 by omega), hu1, h4, hu, Gk_v, Gk_n, xcat_nil, xcat_i, xcat_r, xcat_l, xcat_d, Nat.zero_le, Nat.reduceAdd, Nat.reduceLeDiff, true_and, and_true, ykl_i, ykl_r, ykl_n, ykl_l]
    · exact (F1.trans (yFr_s1 (P := fun a => a = o + 2) rfl) (P'' := fun a => a = 4 ∨ a = 5 ∨ a = o + 2) (fun a h => by omega)).trans Fu (fun a h => by omega)
theorem m_53 {o : Nat} {t : yT} {D : yD} (W : yW t o D) : ∃ u, Ra (d + 3) 53 [.ref o, .ref 3] (yemb t) (.inl none) (yemb u) ∧ (yW u o (ydue D) ∧ yFr (fun a => a = 3 ∨ a = 4 ∨ a = 5 ∨ a = o + 2) t u) := by
  have ho := yo_ge W.oo
  have hl := yll_eq W.ok
  have F1 : yFr (fun a => a = 3 ∨ a = 4) t (((t.sR 3 (t.R o)).s1 3 3 D.lv).sA 4 (fun j => if j < 256 then -1 else t.A 4 j)) :=
    ((yFr_sR (P := fun a => a = 3) rfl).trans (yFr_s1 (P := fun a => a = 3) rfl) (P'' := fun a => a = 3) (fun a h => by omega)).trans (yFr_sA (P := fun a => a = 4) rfl) (fun a h => by omega)
  have W1 := yW_fr W F1 (fun a _ _ (h : a = 3 ∨ a = 4) => by omega)
  have K1 : yDm (((t.sR 3 (t.R o)).s1 3 3 D.lv).sA 4 (fun j => if j < 256 then -1 else t.A 4 j)) D.cn D.cg (yll D) := by
    refine ⟨⟨W.c1.1, W.c1.2, W.cv⟩, ?_, ?_⟩
    · rw [ysA_ne (by decide), ys1_upd, yupd_same]
      exact hl.1
    · intro x hx
      rw [ysA_same]
      left
      exact if_pos hx
  obtain ⟨u, hu, Wu, Fu⟩ := l_53 (d := d) hl.2 D.n 0 _ D W1 K1 rfl (Nat.zero_add _)
  refine ⟨u, fun Q => ?_, Wu, F1.trans Fu (fun a h => by omega)⟩
  have hp := fun Q' => m_1 (d := d + 1) (r := t.R o) (v := D.lv) t Q'
  show G (d + 3) 53 0 [some (.ref o), some (.ref 3), none] [] (yemb t) Q ↔ _
  simp only [s_53_0, s_53_1, s_53_2 W.oo, s_53_3, s_53_4 W.oo, s_53_5 yO_3, s_53_6, s_53_7, W.lv, hp, Gk_v, Gk_n, xcat_nil, xcat_i, xcat_r, xcat_l, xcat_d, Nat.zero_le, Nat.reduceAdd, Nat.reduceLeDiff, true_and, and_true, ykl_i, ykl_r, ykl_n, ykl_l]
  exact hu Q
end
