/-! ===== the due colors, on both sides ===== -/
def ydl (l : Nat) : Nat → Nat → yD → yD
  | 0, _, D => D
  | m + 1, p, D => ydl l m (p + 1) (D.sdu (upd D.du p (ydueC D.cn D.cg l (D.fm p))))
def yll (D : yD) : Nat := D.lv.toNatClampNeg
theorem yll_eq {D : yD} (h : yDok D) : D.lv = yI (yll D) ∧ yll D < 256 := by
  obtain ⟨l, hl, e⟩ := h.lvv
  have : yll D = l := by
    unfold yll
    rw [e, yI_clamp (by omega)]
  rw [this]
  exact ⟨e, hl⟩
/-- the due colors worked out anew -/
def ydue (D : yD) : yD := ydl (yll D) D.n 0 D
theorem ydl_du {l : Nat} : ∀ m p (D : yD), ∃ f, ydl l m p D = D.sdu f := by
  intro m
  induction m with
  | zero => intro p D; exact ⟨D.du, rfl⟩
  | succ m ih =>
    intro p D
    obtain ⟨f, hf⟩ := ih (p + 1) (D.sdu (upd D.du p (ydueC D.cn D.cg l (D.fm p))))
    exact ⟨f, hf⟩
theorem yo_ge {o : Nat} (h : yisO 4 o) : 7 ≤ o := by
  have h1 := ystr h
  simp only [ystrips, List.mem_cons, List.not_mem_nil, or_false] at h1
  omega
section
variable {d : Nat}
theorem l_53 {o l n : Nat} (hl : l < 256) : ∀ m p (t : yT) (D : yD), yW t o D → yDm t D.cn D.cg l → D.n = n → p + m = n → ∃ u, Ga (d + 3) 53 8 [some (.ref o), some (.ref 3), some (.int (yI p))] [] (yemb t) (.inl none) (yemb u) ∧ (yW u o (ydl l m p D) ∧ yFr (fun a => a = 4 ∨ a = 5 ∨ a = o + 2) t u) := by
  intro m
  induction m with
  | zero =>
    intro p t D W K hn hp
    have hn40 := W.ok.n40
    have h1 : yI n ≤ yI p := (yI_le (by omega) (by omega)).mpr (by omega)
    refine ⟨t, fun Q => ?_, W, yFr.rfl'⟩
    rw [s_53_8]
    simp only [s_53_0, s_53_1, s_53_2, s_53_3, s_53_4, s_53_5, s_53_6, s_53_7, s_53_9, s_53_10, s_53_11, s_53_12, s_53_13, s_53_14, s_53_15, s_53_16, s_53_17, s_53_18, s_53_19, s_53_20, s_53_21, s_53_22, s_53_23, s_53_24, W.oo, W.n, hn, h1, if_true]
  | succ m ih =>
    intro p t D W K hn hp
    have hn40 := W.ok.n40
    have ho := yo_ge W.oo
    have h1 : ¬ yI n ≤ yI p := fun h => absurd ((yI_le (by omega) (by omega)).mp h) (by omega)
    have h2 : yix (yI p) 40 := yix_I (by omega) (by omega)
    have h3 : (yI p).toNatClampNeg = p := yI_clamp (by omega)
    have h4 : yI p + 1 = yI (p + 1) := yI_add
    obtain ⟨u1, hu1, K1, F1⟩ := m_2 (d := d) (c := D.fm p) W.ok.cok hl K
    have W1 : yW u1 o D := yW_fr W F1 (fun a _ _ (h : a = 4 ∨ a = 5) => by omega)
    have W2 : yW (u1.s1 (o + 2) p (ydueC D.cn D.cg l (D.fm p))) o (D.sdu (upd D.du p (ydueC D.cn D.cg l (D.fm p)))) := ⟨yDok_sdu W.ok, yV_sdu W1.v⟩
    have K2 : yDm (u1.s1 (o + 2) p (ydueC D.cn D.cg l (D.fm p))) D.cn D.cg l := yDm_fr K1 (yFr_s1 (P := fun a => a = o + 2) rfl) (by omega) (by omega)
    obtain ⟨u, hu, Wu, Fu⟩ := ih (p + 1) _ _ W2 K2 hn (by omega)
    refine ⟨u, fun Q => ?_, Wu, ?_⟩
    · rw [s_53_8]
      simp only [s_53_0, s_53_1, s_53_2, s_53_3, s_53_4, s_53_5, s_53_6, s_53_7, s_53_9, s_53_10, s_53_11, s_53_12, s_53_13, s_53_14, s_53_15, s_53_16, s_53_17, s_53_18, s_53_19, s_53_20, s_53_21, s_53_22, s_53_23, s_53_24, W.oo, W.n, hn, h1, if_false, yO_3, yAs_1 W.oo, yns_1 W.oo, yAs_2 W.oo, yns_2 W.oo, h2, h3, W.fm p (show p < 40 by omega), hu1, h4, hu, Gk_v, Gk_n, xcat_nil, xcat_i, xcat_r, xcat_l, xcat_d, Nat.zero_le, Nat.reduceAdd, Nat.reduceLeDiff, true_and, and_true, ykl_i, ykl_r, ykl_n, ykl_l]
    · exact (F1.trans (yFr_s1 (P := fun a => a = o + 2) rfl) (P'' := fun a => a = 4 ∨ a = 5 ∨ a = o + 2) (fun a h => by omega)).trans Fu (fun a h => by omega)
theorem m_53 {o : Nat} {t : yT} {D : yD} (W : yW t o D) : ∃ u, Ra (d + 3) 53 [.ref o, .ref 3] (yemb t) (.inl none) (yemb u) ∧ (yW u o (ydue D) ∧ yFr (fun a => a = 3 ∨ a = 4 ∨ a = 5 ∨ a = o + 2) t u) := by
  have ho := yo_ge W.oo
  have hl := yll_eq W.ok
  have F1 : yFr (fun a => a = 3 ∨ a = 4) t (((t.sR 3 (t.R o)).s1 3 3 D.lv).sA 4 (fun j => if j < 256 then -1 else t.A 4 j)) :=
    ((yFr_sR (P := fun a => a = 3) rfl).trans (yFr_s1 (P := fun a => a = 3) rfl) (P'' := fun a => a = 3) (fun a h => by omega)).trans (yFr_sA (P := fun a => a = 4) rfl) (fun a h => by omega)
  have W1 := yW_fr W F1 (fun a _ _ (h : a = 3 ∨ a = 4) => by omega)
  have K1 : yDm (((t.sR 3 (t.R o)).s1 3 3 D.lv).sA 4 (fun j => if j < 256 then -1 else t.A 4 j)) D.cn D.cg (yll D) := by
    refine ⟨⟨W.c1.1, W.c1.2, W.cv⟩, ?_, ?_⟩
    · rw [ysA_ne (by decide), ys1_upd, yupd_same]
      exact hl.1
    · intro x hx
      rw [ysA_same]
      left
      exact if_pos hx
  obtain ⟨u, hu, Wu, Fu⟩ := l_53 (d := d) hl.2 D.n 0 _ D W1 K1 rfl (Nat.zero_add _)
  refine ⟨u, fun Q => ?_, Wu, F1.trans Fu (fun a h => by omega)⟩
  have hp := fun Q' => m_1 (d := d + 1) (r := t.R o) (v := D.lv) t Q'
  show G (d + 3) 53 0 [some (.ref o), some (.ref 3), none] [] (yemb t) Q ↔ _
  simp only [s_53_0, s_53_1, s_53_2 W.oo, s_53_3, s_53_4 W.oo, s_53_5 yO_3, s_53_6, s_53_7, W.lv, hp, Gk_v, Gk_n, xcat_nil, xcat_i, xcat_r, xcat_l, xcat_d, Nat.zero_le, Nat.reduceAdd, Nat.reduceLeDiff, true_and, and_true, ykl_i, ykl_r, ykl_n, ykl_l]
  exact hu Q
theorem l_179a {l n : Nat} (hl : l < 256) : ∀ m p (t : yT) (D : yD), yM (t.A 162) D → D.lv = yI l → D.n = n → p + m = n → ∃ u, Gg (d + 4) 179 2 [some (.ref 160), some (.int (yI p)), none, none] [] (yemb t) 21 [some (.ref 160), some (.int (yI n)), none, none] [] (yemb u) ∧ (yM (u.A 162) (ydl l m p D) ∧ yFr (fun a => a = 162 ∨ a = 180) t u) := by
  intro m
  induction m with
  | zero =>
    intro p t D M hlv hn hp
    have hn40 := M.ok.n40
    have h1 : yI n ≤ yI p := (yI_le (by omega) (by omega)).mpr (by omega)
    refine ⟨t, fun Q => ?_, M, yFr.rfl'⟩
    rw [s_179_2, show n = p by omega]
    rw [show n = p by omega] at h1 hn
    simp only [s_179_0, s_179_1, s_179_3, s_179_4, s_179_5, s_179_6, s_179_7, s_179_8, s_179_9, s_179_10, s_179_11, s_179_12, s_179_13, s_179_14, s_179_15, s_179_16, s_179_17, s_179_18, s_179_19, s_179_20, s_179_22, s_179_23, s_179_24, s_179_25, s_179_26, s_179_27, s_179_28, s_179_29, s_179_30, s_179_31, s_179_32, s_179_33, s_179_34, s_179_35, s_179_36, s_179_37, s_179_38, s_179_39, s_179_40, s_179_41, s_179_42, s_179_43, s_179_44, s_179_45, s_179_46, s_179_47, s_179_48, s_179_49, s_179_50, s_179_51, s_179_52, s_179_53, s_179_54, s_179_55, s_179_56, s_179_57, s_179_58, s_179_59, s_179_60, s_179_61, s_179_62, s_179_63, s_179_64, s_179_65, s_179_66, s_179_67, s_179_68, s_179_69, s_179_70, s_179_71, s_179_72, s_179_73, s_179_74, s_179_75, s_179_76, s_179_77, s_179_78, s_179_79, s_179_80, s_179_81, s_179_82, s_179_83, s_179_84, s_179_85, s_179_86, s_179_87, s_179_88, s_179_89, s_179_90, s_179_91, s_179_92, s_179_93, yO_160, yA_162, yn_162, yix0, ycl0, M.n, hn, h1, if_true, Gk_v, Gk_n, xcat_nil, xcat_i, xcat_r, xcat_l, xcat_d, Nat.zero_le, Nat.reduceAdd, Nat.reduceLeDiff, true_and, and_true, ykl_i, ykl_r, ykl_n, ykl_l]
  | succ m ih =>
    intro p t D M hlv hn hp
    have hn40 := M.ok.n40
    have h1 : ¬ yI n ≤ yI p := fun h => absurd ((yI_le (by omega) (by omega)).mp h) (by omega)
    have h4 : yI p + 1 = yI (p + 1) := yI_add
    obtain ⟨u1, hu1, F1⟩ := m_177 (d := d) (p := p) (show p < 40 by omega) hl M.ok.cok M
    have M1 : yM ((u1.s1 162 (8 + 8 * p + 5) (ydueC D.cn D.cg l (D.fm p))).A 162) (D.sdu (upd D.du p (ydueC D.cn D.cg l (D.fm p)))) := by
      refine ⟨yDok_sdu M.ok, ?_⟩
      rw [ys1_upd, F1.A (show ¬ (162 : Nat) = 180 by decide)]
      exact yN_sdu M.v (by omega)
    obtain ⟨u, hu, Mu, Fu⟩ := ih (p + 1) _ _ M1 hlv hn (by omega)
    have hs : ∀ Q', Cl (d + 3) 163 [.ref 160, .int (yI p), .int 5, .int (ydueC D.cn D.cg l (D.fm p))] (yemb u1) Q' ↔ Q' (.inl none) (yemb (u1.s1 162 (8 + 8 * p + 5) (ydueC D.cn D.cg l (D.fm p)))) := fun Q' => m_163 (w := 5) (by omega) (by omega)
    refine ⟨u, fun Q => ?_, Mu, (F1.trans (yFr_s1 (P := fun a => a = 162) rfl) (P'' := fun a => a = 162 ∨ a = 180) (fun a h => by omega)).trans Fu (fun a h => by omega)⟩
    rw [s_179_2]
    simp only [s_179_0, s_179_1, s_179_3, s_179_4, s_179_5, s_179_6, s_179_7, s_179_8, s_179_9, s_179_10, s_179_11, s_179_12, s_179_13, s_179_14, s_179_15, s_179_16, s_179_17, s_179_18, s_179_19, s_179_20, s_179_22, s_179_23, s_179_24, s_179_25, s_179_26, s_179_27, s_179_28, s_179_29, s_179_30, s_179_31, s_179_32, s_179_33, s_179_34, s_179_35, s_179_36, s_179_37, s_179_38, s_179_39, s_179_40, s_179_41, s_179_42, s_179_43, s_179_44, s_179_45, s_179_46, s_179_47, s_179_48, s_179_49, s_179_50, s_179_51, s_179_52, s_179_53, s_179_54, s_179_55, s_179_56, s_179_57, s_179_58, s_179_59, s_179_60, s_179_61, s_179_62, s_179_63, s_179_64, s_179_65, s_179_66, s_179_67, s_179_68, s_179_69, s_179_70, s_179_71, s_179_72, s_179_73, s_179_74, s_179_75, s_179_76, s_179_77, s_179_78, s_179_79, s_179_80, s_179_81, s_179_82, s_179_83, s_179_84, s_179_85, s_179_86, s_179_87, s_179_88, s_179_89, s_179_90, s_179_91, s_179_92, s_179_93, yO_160, yA_162, yn_162, yix0, ycl0, yix2, ycl2, M.n, M.lv, hlv, hn, h1, if_false, hu1, hs, h4, hu, Gk_v, Gk_n, xcat_nil, xcat_i, xcat_r, xcat_l, xcat_d, Nat.zero_le, Nat.reduceAdd, Nat.reduceLeDiff, true_and, and_true, ykl_i, ykl_r, ykl_n, ykl_l]
end
