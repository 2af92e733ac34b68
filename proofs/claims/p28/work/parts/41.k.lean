/-! ===== passing on, showing: both sides ===== -/
theorem ydue_sdu (D : yD) : ∃ f, ydue D = D.sdu f := ydl_du D.n 0 D
def yshowD (D : yD) : yD := (((ypassD (ydue D)).ssh ((ypassD (ydue D)).sh + 1)).sac ((ypassD (ydue D)).ac + ycurrent ((ypassD (ydue D)).ssh ((ypassD (ydue D)).sh + 1))))
theorem yix4 : yix 4 1540 := yix_I (n := 4) (by omega) (by omega)
theorem yix5 : yix 5 1540 := yix_I (n := 5) (by omega) (by omega)
theorem ycl4 : (4 : Int32).toNatClampNeg = 4 := rfl
theorem ycl5 : (5 : Int32).toNatClampNeg = 5 := rfl
section
variable {d : Nat}
theorem yM_ne {P : Nat → Prop} {t u : yT} {D : yD} (M : yM (t.A 162) D) (F : yFr P t u) (h : ¬ P 162) : yM (u.A 162) D := by
  rw [F.A h]
  exact M
theorem m_52 {o : Nat} {t : yT} {D : yD} (W : yW t o D) : ∃ u, Ra (d + 5) 52 [.ref o, .ref 3] (yemb t) (.inl none) (yemb u) ∧ (yW u o (yshowD D) ∧ yFr (fun a => a = 3 ∨ a = 4 ∨ a = 5 ∨ (o ≤ a ∧ a ≤ o + 10)) t u) := by
  obtain ⟨u1, h1, W1, F1⟩ := m_53 (d := d + 1) W
  obtain ⟨u2, h2, W2, F2⟩ := m_54 (d := d + 1) W1
  rw [ytaken_go W1.ok] at W2
  have W3 : yW (u2.s1 o 13 ((ypassD (ydue D)).sh + 1)) o ((ypassD (ydue D)).ssh ((ypassD (ydue D)).sh + 1)) := ⟨yDok_ssh W2.ok, yV_ssh W2.v⟩
  have g3 := fun Q' => m_50 (d := d) (Q := Q') W3
  have ha3 : (u2.s1 o 13 ((ypassD (ydue D)).sh + 1)).A o 14 = (ypassD (ydue D)).ac := W3.ac
  refine ⟨(u2.s1 o 13 ((ypassD (ydue D)).sh + 1)).s1 o 14 ((ypassD (ydue D)).ac + ycurrent ((ypassD (ydue D)).ssh ((ypassD (ydue D)).sh + 1))), fun Q => ?_, ⟨yDok_sac W3.ok, yV_sac W3.v⟩, ((F1.trans F2 (P'' := fun a => a = 3 ∨ a = 4 ∨ a = 5 ∨ (o ≤ a ∧ a ≤ o + 10)) (fun a h => by omega)).trans (yFr_s1 (P := fun a => a = o) rfl) (P'' := fun a => a = 3 ∨ a = 4 ∨ a = 5 ∨ (o ≤ a ∧ a ≤ o + 10)) (fun a h => by omega)).trans (yFr_s1 (P := fun a => a = o) rfl) (fun a h => by omega)⟩
  show G (d + 5) 52 0 [some (.ref o), some (.ref 3)] [] (yemb t) Q ↔ _
  simp only [s_52_0, s_52_1, s_52_2, s_52_3, s_52_4, s_52_5, s_52_6, s_52_6i, s_52_7, s_52_8, s_52_9, s_52_10, s_52_11, s_52_12, s_52_12i, s_52_13, s_52_14, s_52_15, s_52_16, s_52_17, s_52_18, W.oo, h1, h2, W2.sh, ha3, g3, Gk_v, Gk_n, xcat_nil, xcat_i, xcat_r, xcat_l, xcat_d, Nat.zero_le, Nat.reduceAdd, Nat.reduceLeDiff, true_and, and_true, ykl_i, ykl_r, ykl_n, ykl_l]
end
/-! ===== rows are copied ===== -/
theorem gs_copy {d k i : Nat} {pc m : Nat} {x : Int32} {n a b : Nat} {y : Int} {ls : xL} {r : List Value} {t : yT} {Q : xR → xS → Prop} (hf : ft k i = some (pc, .invokestatic m, [0, 5, 21, y])) (hx : x = yI n) (hn : n < 2147483648) (ha : yA 0 a) (hb : yA 0 b) (h1 : n ≤ yn a) (h2 : n ≤ yn b) (hr : xcat r ≤ 8) : G d k i ls (.int x :: .int 0 :: .ref a :: .int 0 :: .ref b :: r) (yemb t) Q ↔ G d k (i + 1) ls r (yemb (t.sA a (va_cpy (t.A b) (t.A a) 0 0 n))) Q := by
  refine gs_go hf ?_
  show xcopy i ls (.int x :: .int 0 :: .ref a :: .int 0 :: .ref b :: r) (yemb t) = _
  unfold xcopy
  simp only [yemb_arr ha, yrd_lt hb.2, yemb_arr hb, if_pos ha.2]
  have e0 : (0 : Int32).toNatClampNeg = 0 := rfl
  rw [hx, yI_clamp hn, e0, if_pos ⟨trivial, Or.inl ⟨trivial, hb.2⟩, by decide, by decide, yI_nneg hn, by omega, by omega, hr, Or.inl trivial⟩, yemb_sA ha]
theorem ydisj {o q : Nat} (ho : yisO 4 o) (hq : yisO 4 q) (h : q ≠ o) : o + 12 ≤ q ∨ q + 12 ≤ o := by
  have h1 := ystr ho
  have h2 := ystr hq
  simp only [ystrips, List.mem_cons, List.not_mem_nil, or_false] at h1 h2
  omega
def ycopied (t : yT) (o q : Nat) : yT := ((((((((((((((((t.s1 o 9 (t.A q 9)).s1 o 10 (t.A q 10)).s1 o 11 (t.A q 11)).s1 o 13 (t.A q 13)).s1 o 14 (t.A q 14)).sL o 15 (t.L q 15)).sR o (t.R q)).s1 o 12 (t.A q 12)).sA (o + 8) (va_cpy (t.A (q + 8)) (t.A (o + 8)) 0 0 6)).sA (o + 9) (va_cpy (t.A (q + 9)) (t.A (o + 9)) 0 0 6)).sA (o + 1) (va_cpy (t.A (q + 1)) (t.A (o + 1)) 0 0 40)).sA (o + 2) (va_cpy (t.A (q + 2)) (t.A (o + 2)) 0 0 40)).sA (o + 3) (va_cpy (t.A (q + 3)) (t.A (o + 3)) 0 0 40)).sA (o + 4) (va_cpy (t.A (q + 4)) (t.A (o + 4)) 0 0 40)).sA (o + 5) (va_cpy (t.A (q + 5)) (t.A (o + 5)) 0 0 40)).sA (o + 6) (va_cpy (t.A (q + 6)) (t.A (o + 6)) 0 0 40)).sA (o + 7) (va_cpy (t.A (q + 7)) (t.A (o + 7)) 0 0 40)
theorem m_31 {d o q : Nat} (ho : yisO 4 o) (hq : yisO 4 q) (h : q ≠ o) (t : yT) : Ra d 31 [.ref o, .ref q] (yemb t) (.inl none) (yemb (ycopied t o q)) := by
  intro Q
  have hd := ydisj ho hq h
  have r1 : ∀ (s : yT) j k f, j < 12 → k < 12 → (s.sA (o + k) f).A (q + j) = s.A (q + j) := fun s j k f h1 h2 => ysA_ne (by omega)
  have r2 : ∀ (s : yT) j k f, (j == k) = false → (s.sA (o + k) f).A (o + j) = s.A (o + j) := fun s j k f h1 => ysA_ne (by
    intro e
    have : j = k := by omega
    rw [this] at h1
    simp at h1)
  have r3 : ∀ (s : yT) j k v, k < 12 → (s.s1 o j v).A (q + k) = s.A (q + k) := fun s j k v h1 => ys1_ne (by omega)
  have r4 : ∀ (s : yT) j k v, (k == 0) = false → (s.s1 o j v).A (o + k) = s.A (o + k) := fun s j k v h1 => ys1_ne (by
    intro e
    have : k = 0 := by omega
    rw [this] at h1
    simp at h1)
  have r5 : ∀ (s : yT) j v, (s.s1 o j v).A q = s.A q := fun s j v => ys1_ne h
  have c6 : (6 : Int32) = yI 6 := rfl
  have c40 : (40 : Int32) = yI 40 := rfl
  have b6 : 6 < 2147483648 := by decide
  have b40 : 40 < 2147483648 := by decide
  have xc_nil : xcat [] ≤ 8 := by decide
  have q39 := fun (t' : yT) (Q' : xR → xS → Prop) (ls : xL) => gs_copy (d := d) (r := []) (ls := ls) (t := t') (Q := Q') f_31_39 c6 b6 (yAs_8 ho) (yAs_8 hq) (Nat.le_of_eq (yns_8 ho).symm) (Nat.le_of_eq (yns_8 hq).symm) xc_nil
  have q47 := fun (t' : yT) (Q' : xR → xS → Prop) (ls : xL) => gs_copy (d := d) (r := []) (ls := ls) (t := t') (Q := Q') f_31_47 c6 b6 (yAs_9 ho) (yAs_9 hq) (Nat.le_of_eq (yns_9 ho).symm) (Nat.le_of_eq (yns_9 hq).symm) xc_nil
  have q55 := fun (t' : yT) (Q' : xR → xS → Prop) (ls : xL) => gs_copy (d := d) (r := []) (ls := ls) (t := t') (Q := Q') f_31_55 c40 b40 (yAs_1 ho) (yAs_1 hq) (Nat.le_of_eq (yns_1 ho).symm) (Nat.le_of_eq (yns_1 hq).symm) xc_nil
  have q63 := fun (t' : yT) (Q' : xR → xS → Prop) (ls : xL) => gs_copy (d := d) (r := []) (ls := ls) (t := t') (Q := Q') f_31_63 c40 b40 (yAs_2 ho) (yAs_2 hq) (Nat.le_of_eq (yns_2 ho).symm) (Nat.le_of_eq (yns_2 hq).symm) xc_nil
  have q71 := fun (t' : yT) (Q' : xR → xS → Prop) (ls : xL) => gs_copy (d := d) (r := []) (ls := ls) (t := t') (Q := Q') f_31_71 c40 b40 (yAs_3 ho) (yAs_3 hq) (Nat.le_of_eq (yns_3 ho).symm) (Nat.le_of_eq (yns_3 hq).symm) xc_nil
  have q79 := fun (t' : yT) (Q' : xR → xS → Prop) (ls : xL) => gs_copy (d := d) (r := []) (ls := ls) (t := t') (Q := Q') f_31_79 c40 b40 (yAs_4 ho) (yAs_4 hq) (Nat.le_of_eq (yns_4 ho).symm) (Nat.le_of_eq (yns_4 hq).symm) xc_nil
  have q87 := fun (t' : yT) (Q' : xR → xS → Prop) (ls : xL) => gs_copy (d := d) (r := []) (ls := ls) (t := t') (Q := Q') f_31_87 c40 b40 (yAs_5 ho) (yAs_5 hq) (Nat.le_of_eq (yns_5 ho).symm) (Nat.le_of_eq (yns_5 hq).symm) xc_nil
  have q95 := fun (t' : yT) (Q' : xR → xS → Prop) (ls : xL) => gs_copy (d := d) (r := []) (ls := ls) (t := t') (Q := Q') f_31_95 c40 b40 (yAs_6 ho) (yAs_6 hq) (Nat.le_of_eq (yns_6 ho).symm) (Nat.le_of_eq (yns_6 hq).symm) xc_nil
  have q103 := fun (t' : yT) (Q' : xR → xS → Prop) (ls : xL) => gs_copy (d := d) (r := []) (ls := ls) (t := t') (Q := Q') f_31_103 c40 b40 (yAs_7 ho) (yAs_7 hq) (Nat.le_of_eq (yns_7 ho).symm) (Nat.le_of_eq (yns_7 hq).symm) xc_nil
  show G d 31 0 [some (.ref o), some (.ref q)] [] (yemb t) Q ↔ _
  simp only [s_31_0, s_31_1, s_31_2, s_31_3, s_31_4, s_31_5, s_31_6, s_31_7, s_31_8, s_31_9, s_31_10, s_31_11, s_31_12, s_31_13, s_31_14, s_31_15, s_31_16, s_31_17, s_31_18, s_31_19, s_31_20, s_31_21, s_31_22, s_31_23, s_31_24, s_31_25, s_31_26, s_31_27, s_31_28, s_31_29, s_31_30, s_31_31, s_31_32, s_31_33, s_31_34, s_31_35, s_31_36, s_31_37, s_31_38, s_31_40, s_31_41, s_31_42, s_31_43, s_31_44, s_31_45, s_31_46, s_31_48, s_31_49, s_31_50, s_31_51, s_31_52, s_31_53, s_31_54, s_31_56, s_31_57, s_31_58, s_31_59, s_31_60, s_31_61, s_31_62, s_31_64, s_31_65, s_31_66, s_31_67, s_31_68, s_31_69, s_31_70, s_31_72, s_31_73, s_31_74, s_31_75, s_31_76, s_31_77, s_31_78, s_31_80, s_31_81, s_31_82, s_31_83, s_31_84, s_31_85, s_31_86, s_31_88, s_31_89, s_31_90, s_31_91, s_31_92, s_31_93, s_31_94, s_31_96, s_31_97, s_31_98, s_31_99, s_31_100, s_31_101, s_31_102, s_31_104, ho, hq, r1, r2, r3, r4, r5, ysA_L, ysA_R, ysL_A, ysR_A, ys1_L, ysL_L, ysR_L, ys1_R, ysL_R, Nat.reduceLT, Nat.reduceBEq, Nat.reduceAdd, q39, q47, q55, q63, q71, q79, q87, q95, q103]
  exact Iff.rfl
theorem ycpy {α : Type} {f g : Nat → α} {n p : Nat} (hp : p < n) : va_cpy f g 0 0 n p = f p := by
  unfold va_cpy
  rw [if_pos (by omega)]
  congr 1
  omega
theorem ycopied_fr {t : yT} {o q : Nat} : yFr (fun a => o ≤ a ∧ a ≤ o + 9) t (ycopied t o q) := by
  refine ⟨fun a ha => ⟨?_, ?_, ?_⟩, rfl, rfl⟩
  · have ha' : ¬ (o ≤ a ∧ a ≤ o + 9) := ha
    unfold ycopied
    rw [ysA_ne (by omega), ysA_ne (by omega), ysA_ne (by omega), ysA_ne (by omega), ysA_ne (by omega), ysA_ne (by omega), ysA_ne (by omega), ysA_ne (by omega), ysA_ne (by omega), ys1_ne (by omega), ysR_A, ysL_A, ys1_ne (by omega), ys1_ne (by omega), ys1_ne (by omega), ys1_ne (by omega), ys1_ne (by omega)]
  · have ha' : ¬ (o ≤ a ∧ a ≤ o + 9) := ha
    unfold ycopied
    simp only [ysA_L, ys1_L, ysR_L]
    rw [ysL_ne (by omega)]
    rfl
  · have ha' : ¬ (o ≤ a ∧ a ≤ o + 9) := ha
    unfold ycopied
    simp only [ysA_R, ys1_R]
    rw [ysR_R, if_neg (by omega)]
    rfl
theorem yV_copied {t : yT} {o q : Nat} {D : yD} (ho : yisO 4 o) (h6 : D.f ≤ 6) (V : yV t q D) : yV (ycopied t o q) o D := by
  have r2 : ∀ (s : yT) j k f, (j == k) = false → (s.sA (o + k) f).A (o + j) = s.A (o + j) := fun s j k f h1 => ysA_ne (by
    intro e
    have : j = k := by omega
    rw [this] at h1
    simp at h1)
  have r6 : ∀ (s : yT) k f, (k == 0) = false → (s.sA (o + k) f).A o = s.A o := fun s k f h1 => ysA_ne (by
    intro e
    have : k = 0 := by omega
    rw [this] at h1
    simp at h1)
  have eo : (ycopied t o q).A o = upd (upd (upd (upd (upd (upd (t.A o) 9 (t.A q 9)) 10 (t.A q 10)) 11 (t.A q 11)) 13 (t.A q 13)) 14 (t.A q 14)) 12 (t.A q 12) := by
    unfold ycopied
    simp only [r6, Nat.reduceBEq, ys1_upd, ysL_A, ysR_A]
  have e1 : (ycopied t o q).A (o + 1) = va_cpy (t.A (q + 1)) (t.A (o + 1)) 0 0 40 := by
    unfold ycopied
    simp only [r2, Nat.reduceBEq, ysA_same]
  have e2 : (ycopied t o q).A (o + 2) = va_cpy (t.A (q + 2)) (t.A (o + 2)) 0 0 40 := by
    unfold ycopied
    simp only [r2, Nat.reduceBEq, ysA_same]
  have e3 : (ycopied t o q).A (o + 3) = va_cpy (t.A (q + 3)) (t.A (o + 3)) 0 0 40 := by
    unfold ycopied
    simp only [r2, Nat.reduceBEq, ysA_same]
  have e4 : (ycopied t o q).A (o + 4) = va_cpy (t.A (q + 4)) (t.A (o + 4)) 0 0 40 := by
    unfold ycopied
    simp only [r2, Nat.reduceBEq, ysA_same]
  have e5 : (ycopied t o q).A (o + 5) = va_cpy (t.A (q + 5)) (t.A (o + 5)) 0 0 40 := by
    unfold ycopied
    simp only [r2, Nat.reduceBEq, ysA_same]
  have e6 : (ycopied t o q).A (o + 6) = va_cpy (t.A (q + 6)) (t.A (o + 6)) 0 0 40 := by
    unfold ycopied
    simp only [r2, Nat.reduceBEq, ysA_same]
  have e7 : (ycopied t o q).A (o + 7) = va_cpy (t.A (q + 7)) (t.A (o + 7)) 0 0 40 := by
    unfold ycopied
    rw [ysA_same]
  have e8 : (ycopied t o q).A (o + 8) = va_cpy (t.A (q + 8)) (t.A (o + 8)) 0 0 6 := by
    unfold ycopied
    simp only [r2, Nat.reduceBEq, ysA_same]
  have e9 : (ycopied t o q).A (o + 9) = va_cpy (t.A (q + 9)) (t.A (o + 9)) 0 0 6 := by
    unfold ycopied
    simp only [r2, Nat.reduceBEq, ysA_same]
  have eR : (ycopied t o q).R o = t.R q := by
    unfold ycopied
    simp only [ysA_R, ys1_R]
    rw [ysR_R, if_pos rfl]
  have eL : (ycopied t o q).L o 15 = t.L q 15 := by
    unfold ycopied
    simp only [ysA_L, ys1_L, ysR_L]
    rw [ysL_same]
    exact if_pos rfl
  have eK : (ycopied t o q).K = t.K := rfl
  refine ⟨ho, ?_, ?_, ?_, ?_, ?_, ?_, ?_, ?_, ?_, ?_, ?_, ?_, ?_, ?_, ?_, ?_, ?_, ?_⟩
  · rw [eo, yupd_ne (by decide), yupd_ne (by decide), yupd_ne (by decide), yupd_ne (by decide), yupd_ne (by decide), yupd_same]; exact V.n
  · rw [eo, yupd_ne (by decide), yupd_ne (by decide), yupd_ne (by decide), yupd_ne (by decide), yupd_same]; exact V.un
  · rw [eo, yupd_ne (by decide), yupd_ne (by decide), yupd_ne (by decide), yupd_same]; exact V.lv
  · rw [eo, yupd_same]; exact V.f
  · rw [eo, yupd_ne (by decide), yupd_ne (by decide), yupd_same]; exact V.sh
  · rw [eo, yupd_ne (by decide), yupd_same]; exact V.ac
  · rw [eL]; exact V.bw
  · rw [eR]; exact V.c1
  · rw [eR, eK]; exact V.cv
  · intro p hp; rw [e1, ycpy hp]; exact V.fm p hp
  · intro p hp; rw [e2, ycpy hp]; exact V.du p hp
  · intro p hp; rw [e3, ycpy hp]; exact V.kd p hp
  · intro p hp; rw [e4, ycpy hp]; exact V.pd p hp
  · intro p hp; rw [e5, ycpy hp]; exact V.fr p hp
  · intro p hp; rw [e6, ycpy hp]; exact V.tk p hp
  · intro p hp; rw [e7, ycpy hp]; exact V.og p hp
  · intro g hg; rw [e8, ycpy (by omega)]; exact V.fp g hg
  · intro g hg; rw [e9, ycpy (by omega)]; exact V.fl g hg
theorem m_31' {d o q : Nat} {t : yT} {D : yD} (W : yW t q D) (ho : yisO 4 o) (h : q ≠ o) : ∃ u, Ra d 31 [.ref o, .ref q] (yemb t) (.inl none) (yemb u) ∧ (yW u o D ∧ yFr (fun a => o ≤ a ∧ a ≤ o + 9) t u) :=
  ⟨ycopied t o q, m_31 ho W.oo h t, ⟨W.ok, yV_copied ho W.ok.f6 W.v⟩, ycopied_fr⟩
