/-! ===== the draft is laid anew; a curve is laid ===== -/
section
variable {P : Nat → Prop} {t x : yT} {a : Nat}
theorem yFg_s1' (F : yFg P t x) (h : P a) {j : Nat} {v : Int32} : yFg P t (x.s1 a j v) := F.trans (yFg_fr (yFr_s1 h)) (fun _ h => h.elim id id)
theorem yFg_sA' (F : yFg P t x) (h : P a) {f : Nat → Int32} : yFg P t (x.sA a f) := F.trans (yFg_fr (yFr_sA h)) (fun _ h => h.elim id id)
theorem yFg_sL' (F : yFg P t x) (h : P a) {j : Nat} {v : Int64} : yFg P t (x.sL a j v) := F.trans (yFg_fr (yFr_sL h)) (fun _ h => h.elim id id)
theorem yFg_sR' (F : yFg P t x) (h : P a) {v : Nat} : yFg P t (x.sR a v) := F.trans (yFg_fr (yFr_sR h)) (fun _ h => h.elim id id)
theorem yFg_al' (F : yFg P t x) (Z : yZ x) {n : Nat} {f : Nat → Int32} : yFg P t (x.al n f) := F.trans (yFg_al (P := P) Z) (fun _ h => h.elim id id)
end
section
variable {d o : Nat}
def yr1 (t : yT) (o n m : Nat) : yT := (((((t.s1 o 9 (yI n)).s1 o 10 (yI m)).s1 o 11 255).s1 o 13 0).s1 o 14 0).sL o 15 0
def yr2 (t : yT) (o z : Nat) : yT := (((t.sR o z).s1 o 12 1).s1 (o + 8) 0 0).s1 (o + 9) 0 9999
def yr3 (t : yT) (o j : Nat) (v : Int32) : yT := t.sA (o + j) (fun p => if p < 40 then v else t.A (o + j) p)
def yr4 (t : yT) (o : Nat) : yT := yr3 (yr3 (yr3 (yr3 (yr3 (yr3 (yr3 t o 1 0) o 2 0) o 3 0) o 4 0) o 5 0) o 6 0) o 7 (-1)
theorem yr3_ne {t : yT} {o j a : Nat} {v : Int32} (h : a ≠ o + j) : (yr3 t o j v).A a = t.A a := ysA_ne h
theorem yr3_at {t : yT} {o j p : Nat} {v : Int32} (h : p < 40) : (yr3 t o j v).A (o + j) p = v := by
  unfold yr3
  rw [ysA_same, if_pos h]
theorem yr4_L {t : yT} {o : Nat} : (yr4 t o).L = t.L := rfl
theorem yr4_R {t : yT} {o : Nat} : (yr4 t o).R = t.R := rfl
theorem yr4_K {t : yT} {o : Nat} : (yr4 t o).K = t.K := rfl
theorem yr4_z {t : yT} {o : Nat} : (yr4 t o).z = t.z := rfl
theorem yr4_ne {t : yT} {o a : Nat} (h : a < o + 1 ∨ o + 7 < a) : (yr4 t o).A a = t.A a := by
  unfold yr4
  rw [yr3_ne (by omega), yr3_ne (by omega), yr3_ne (by omega), yr3_ne (by omega), yr3_ne (by omega), yr3_ne (by omega), yr3_ne (by omega)]
theorem yr4_0 {t : yT} {o p : Nat} (hp : p < 40) : (yr4 t o).A (o + 1) p = 0 ∧ ((yr4 t o).A (o + 2) p = 0 ∧ ((yr4 t o).A (o + 3) p = 0 ∧ ((yr4 t o).A (o + 4) p = 0 ∧ ((yr4 t o).A (o + 5) p = 0 ∧ ((yr4 t o).A (o + 6) p = 0 ∧ (yr4 t o).A (o + 7) p = -1))))) := by
  unfold yr4
  refine ⟨?_, ?_, ?_, ?_, ?_, ?_, ?_⟩
  · rw [yr3_ne (by omega), yr3_ne (by omega), yr3_ne (by omega), yr3_ne (by omega), yr3_ne (by omega), yr3_ne (by omega)]
    exact yr3_at hp
  · rw [yr3_ne (by omega), yr3_ne (by omega), yr3_ne (by omega), yr3_ne (by omega), yr3_ne (by omega)]
    exact yr3_at hp
  · rw [yr3_ne (by omega), yr3_ne (by omega), yr3_ne (by omega), yr3_ne (by omega)]
    exact yr3_at hp
  · rw [yr3_ne (by omega), yr3_ne (by omega), yr3_ne (by omega)]
    exact yr3_at hp
  · rw [yr3_ne (by omega), yr3_ne (by omega)]
    exact yr3_at hp
  · rw [yr3_ne (by omega)]
    exact yr3_at hp
  · exact yr3_at hp
/-- the strip behind its reset -/
def yres (t : yT) (o n m : Nat) : yT := yr4 (yr2 ((yr1 t o n m).al 0 (fun _ => 0)) o t.z.1.1) o
theorem yres_W {t : yT} (ho : yisO 4 o) (Z : yZ t) (hz : t.z.1.1 < 900000) {n m : Nat} (h1 : 1 ≤ n) (h2 : n ≤ 40) (h3 : 1 ≤ m) (h4 : m ≤ 100) : yW (yres t o n m) o (yD0 n m) := by
  have e0 : (yres t o n m).A o = (yr2 ((yr1 t o n m).al 0 (fun _ => 0)) o t.z.1.1).A o := yr4_ne (by omega)
  have e1 : (yr2 ((yr1 t o n m).al 0 (fun _ => 0)) o t.z.1.1).A o = upd ((yr1 t o n m).A o) 12 1 := by
    unfold yr2
    rw [ys1_ne (by omega), ys1_ne (by omega), ys1_upd]
    rfl
  have e2 : (yr1 t o n m).A o = upd (upd (upd (upd (upd (t.A o) 9 (yI n)) 10 (yI m)) 11 255) 13 0) 14 0 := by
    unfold yr1
    rw [ysL_A, ys1_upd, ys1_upd, ys1_upd, ys1_upd, ys1_upd]
  rw [e1, e2] at e0
  have eR : (yres t o n m).R o = t.z.1.1 := by
    show (((yr1 t o n m).al 0 (fun _ => 0)).sR o t.z.1.1).R o = _
    rw [ysR_R, if_pos rfl]
  have eK : (yres t o n m).K t.z.1.1 = ycv 0 (fun _ => 0) := by
    show ((yr1 t o n m).al 0 (fun _ => 0)).K t.z.1.1 = _
    rw [yal_K]
    exact if_pos rfl
  refine ⟨yD0_ok h1 h2 h3 h4, ho, ?_, ?_, ?_, ?_, ?_, ?_, ?_, ?_, ?_, ?_, ?_, ?_, ?_, ?_, ?_, ?_, ?_, ?_⟩
  · rw [e0, yupd_ne (by decide), yupd_ne (by decide), yupd_ne (by decide), yupd_ne (by decide), yupd_ne (by decide), yupd_same]; rfl
  · rw [e0, yupd_ne (by decide), yupd_ne (by decide), yupd_ne (by decide), yupd_ne (by decide), yupd_same]; rfl
  · rw [e0, yupd_ne (by decide), yupd_ne (by decide), yupd_ne (by decide), yupd_same]; rfl
  · rw [e0, yupd_same]; rfl
  · rw [e0, yupd_ne (by decide), yupd_ne (by decide), yupd_same]; rfl
  · rw [e0, yupd_ne (by decide), yupd_same]; rfl
  · show (yr1 t o n m).L o 15 = _
    unfold yr1
    rw [ysL_same, vp_updL_same]
    rfl
  · rw [eR]; exact ⟨yla_no Z.1, hz⟩
  · rw [eR]; exact eK
  · intro p hp; exact (yr4_0 hp).1
  · intro p hp; exact (yr4_0 hp).2.1
  · intro p hp; exact (yr4_0 hp).2.2.1
  · intro p hp; exact (yr4_0 hp).2.2.2.1
  · intro p hp; exact (yr4_0 hp).2.2.2.2.1
  · intro p hp; exact (yr4_0 hp).2.2.2.2.2.1
  · intro p hp; exact (yr4_0 hp).2.2.2.2.2.2
  · intro g hg
    rw [yD0_f] at hg
    obtain rfl : g = 0 := by omega
    show (yr4 _ o).A (o + 8) 0 = _
    rw [yr4_ne (by omega)]
    unfold yr2
    rw [ys1_ne (by omega)]
    exact ys1_same
  · intro g hg
    rw [yD0_f] at hg
    obtain rfl : g = 0 := by omega
    show (yr4 _ o).A (o + 9) 0 = _
    rw [yr4_ne (by omega)]
    exact ys1_same
theorem yres_F {t : yT} {n m : Nat} (Z : yZ t) : yFg (fun a => o ≤ a ∧ a ≤ o + 9) t (yres t o n m) ∧ yZ (yres t o n m) := by
  have F1 : yFg (fun a => o ≤ a ∧ a ≤ o + 9) t (yr1 t o n m) := yFg_sL' (yFg_s1' (yFg_s1' (yFg_s1' (yFg_s1' (yFg_s1' yFg_rfl ⟨by omega, by omega⟩) ⟨by omega, by omega⟩) ⟨by omega, by omega⟩) ⟨by omega, by omega⟩) ⟨by omega, by omega⟩) ⟨by omega, by omega⟩
  have Z1 : yZ (yr1 t o n m) := Z
  have F2 := yFg_al' F1 Z1 (n := 0) (f := fun _ => 0)
  have Z2 : yZ ((yr1 t o n m).al 0 (fun _ => 0)) := yZ_al Z1
  have F3 : yFg (fun a => o ≤ a ∧ a ≤ o + 9) t (yr2 ((yr1 t o n m).al 0 (fun _ => 0)) o t.z.1.1) := yFg_s1' (yFg_s1' (yFg_s1' (yFg_sR' F2 ⟨by omega, by omega⟩) ⟨by omega, by omega⟩) ⟨by omega, by omega⟩) ⟨by omega, by omega⟩
  exact ⟨yFg_sA' (yFg_sA' (yFg_sA' (yFg_sA' (yFg_sA' (yFg_sA' (yFg_sA' F3 ⟨by omega, by omega⟩) ⟨by omega, by omega⟩) ⟨by omega, by omega⟩) ⟨by omega, by omega⟩) ⟨by omega, by omega⟩) ⟨by omega, by omega⟩) ⟨by omega, by omega⟩, Z2⟩
theorem m_30 {t : yT} (ho : yisO 4 o) (Z : yZ t) (hz : t.z.1.1 < 900000) {n m : Nat} : Ra (d + 1) 30 [.ref o, .int (yI n), .int (yI m)] (yemb t) (.inl none) (yemb (yres t o n m)) := by
  intro Q
  have g20 := gs_new (d := d + 1) (k := 30) (i := 20) (t := yr1 t o n m) (x := 0) (ls := [some (.ref o), some (.int (yI n)), some (.int (yI m))]) (r := [.ref o]) (Q := Q) f_30_20 (by decide) (by decide) hz (yla_no Z.1)
  have e0 : (0 : Int32).toNatClampNeg = 0 := rfl
  rw [e0] at g20
  have f0 : ∀ (t' : yT) (j : Nat) (v : Int32), yA 0 (o + j) → yn (o + j) = 40 → Ra d 223 [.ref (o + j), .int v] (yemb t') (.inl none) (yemb (yr3 t' o j v)) := fun t' j v ha hn => m_223 (d := d) (v := v) ha hn (by decide) t'
  have f1 := fun t' v => f0 t' 1 v (yAs_1 ho) (yns_1 ho)
  have f2 := fun t' v => f0 t' 2 v (yAs_2 ho) (yns_2 ho)
  have f3 := fun t' v => f0 t' 3 v (yAs_3 ho) (yns_3 ho)
  have f4 := fun t' v => f0 t' 4 v (yAs_4 ho) (yns_4 ho)
  have f5 := fun t' v => f0 t' 5 v (yAs_5 ho) (yns_5 ho)
  have f6 := fun t' v => f0 t' 6 v (yAs_6 ho) (yns_6 ho)
  have f7 := fun t' v => f0 t' 7 v (yAs_7 ho) (yns_7 ho)
  have i6 : yix 0 6 := yix_I (n := 0) (by omega) (by omega)
  show G (d + 1) 30 0 [some (.ref o), some (.int (yI n)), some (.int (yI m))] [] (yemb t) Q ↔ _
  simp only [s_30_0, s_30_1, s_30_2, s_30_3, s_30_4, s_30_5, s_30_6, s_30_7, s_30_8, s_30_9, s_30_10, s_30_11, s_30_12, s_30_13, s_30_14, s_30_15, s_30_16, s_30_17, s_30_18, s_30_19, s_30_22, s_30_23, s_30_24, s_30_25, s_30_26, s_30_27, s_30_28, s_30_29, s_30_30, s_30_31, s_30_32, s_30_33, s_30_34, s_30_35, s_30_36, s_30_37, s_30_38, s_30_39, s_30_40, s_30_41, s_30_42, s_30_43, s_30_44, s_30_45, s_30_46, s_30_47, s_30_48, s_30_49, s_30_50, s_30_51, s_30_52, s_30_53, s_30_54, s_30_55, s_30_56, s_30_57, s_30_58, s_30_59, s_30_60, s_30_61, s_30_62, s_30_63, ho, Gk_v, Gk_n, xcat_nil, xcat_i, xcat_r, xcat_l, xcat_d, Nat.zero_le, Nat.reduceAdd, Nat.reduceLeDiff, true_and, and_true, ykl_i, ykl_r, ykl_n, ykl_l]
  refine Iff.trans g20 ?_
  have hzz : (yr1 t o n m).z.1.1 = t.z.1.1 := rfl
  rw [hzz]
  unfold yres
  generalize (yr1 t o n m).al 0 (fun _ => 0) = w at *
  generalize t.z.1.1 = z at *
  unfold yr4 yr2
  rw [s_30_21 ho]
  simp only [s_30_0, s_30_1, s_30_2, s_30_3, s_30_4, s_30_5, s_30_6, s_30_7, s_30_8, s_30_9, s_30_10, s_30_11, s_30_12, s_30_13, s_30_14, s_30_15, s_30_16, s_30_17, s_30_18, s_30_19, s_30_22, s_30_23, s_30_24, s_30_25, s_30_26, s_30_27, s_30_28, s_30_29, s_30_30, s_30_31, s_30_32, s_30_33, s_30_34, s_30_35, s_30_36, s_30_37, s_30_38, s_30_39, s_30_40, s_30_41, s_30_42, s_30_43, s_30_44, s_30_45, s_30_46, s_30_47, s_30_48, s_30_49, s_30_50, s_30_51, s_30_52, s_30_53, s_30_54, s_30_55, s_30_56, s_30_57, s_30_58, s_30_59, s_30_60, s_30_61, s_30_62, s_30_63, ho, yAs_8 ho, yns_8 ho, yAs_9 ho, yns_9 ho, i6, e0, f1, f2, f3, f4, f5, f6, f7, Gk_v, Gk_n, xcat_nil, xcat_i, xcat_r, xcat_l, xcat_d, Nat.zero_le, Nat.reduceAdd, Nat.reduceLeDiff, true_and, and_true, ykl_i, ykl_r, ykl_n, ykl_l]
theorem m_224 {t : yT} (Z : yZ t) (hz : t.z.1.1 < 900000) {n : Nat} (hn : n < 600) : Ra d 224 [.ref 33, .int (yI n)] (yemb t) (.inl (some (.ref t.z.1.1))) (yemb (t.al n (va_cpy (t.A 33) (fun _ => 0) 0 0 n))) := by
  intro Q
  have c1 : ¬ yI n = yI 600 := fun h => by
    have := (yI_inj (by omega) (by decide)).mp h
    omega
  have c2 : yI n < yI 600 := (yI_lt (by omega) (by decide)).mpr hn
  have c3 : t.z.1.1 < 1000000 := by omega
  have c4 : (yI n).toNatClampNeg = n := yI_clamp (by omega)
  have g2 := fun (t' : yT) (r : List Value) (ls : xL) => gs_len (d := d) (k := 224) (i := 2) (a := 33) (t := t') (ls := ls) (r := r) (Q := Q) f_224_2 yA_33
  have g16 := fun (t' : yT) (r : List Value) (ls : xL) => gs_len (d := d) (k := 224) (i := 16) (a := 33) (t := t') (ls := ls) (r := r) (Q := Q) f_224_16 yA_33
  have g9 := fun (r : List Value) (ls : xL) => gs_new (d := d) (k := 224) (i := 9) (t := t) (x := yI n) (ls := ls) (r := r) (Q := Q) f_224_9 (yI_nneg (by omega)) (by rw [c4]; omega) hz (yla_no Z.1)
  rw [c4] at g9
  have xc : xcat [.int 0, .ref t.z.1.1, .int 0, .ref 33] ≤ 8 := Nat.le_of_ble_eq_true rfl
  have xc0 : xcat [] ≤ 8 := Nat.le_of_ble_eq_true rfl
  have g19 := fun (ls : xL) => gs_copyK (d := d) (k := 224) (i := 19) (t := t) (n := n) (b := 33) (ls := ls) (r := []) (Q := Q) f_224_19 (by omega) hz (yla_no Z.1) yA_33 (by rw [yn_33]; omega) xc0
  show G d 224 0 [some (.ref 33), some (.int (yI n)), none] [] (yemb t) Q ↔ _
  simp only [s_224_0, s_224_1, g2, yn_33, s_224_3, c1, ne_eq, not_false_eq_true, if_true, s_224_8, g9, s_224_10 c3, s_224_11, s_224_12, s_224_13, s_224_14, s_224_15, g16, s_224_17, s_224_18 xc, c2, g19, s_224_20, s_224_21, Gk_v, Gk_n, xcat_nil, xcat_i, xcat_r, xcat_l, xcat_d, Nat.zero_le, Nat.reduceAdd, Nat.reduceLeDiff, true_and, and_true, ykl_i, ykl_r, ykl_n, ykl_l]
theorem m_67 {t : yT} (Z : yZ t) (hz : t.z.1.1 < 900000) {l : List Int32} (I : yIt t l) (hl : l.length < 600) : Ra (d + 1) 67 [.ref 32] (yemb t) (.inl (some (.ref t.z.1.1))) (yemb (t.al l.length (yg l))) := by
  intro Q
  have e : va_cpy (t.A 33) (fun _ => 0) 0 0 l.length = yg l := by
    funext i
    by_cases h : i < l.length
    · rw [ycpy h, I.2.2 i h]
      rfl
    · unfold va_cpy yg
      rw [if_neg (by omega), List.getD_eq_getElem?_getD, List.getElem?_eq_none (by omega)]
      rfl
  have g := m_224 (d := d) Z hz hl
  rw [e] at g
  show G (d + 1) 67 0 [some (.ref 32)] [] (yemb t) Q ↔ _
  simp only [s_67_0, s_67_1, s_67_2, s_67_3, s_67_4, s_67_5, yO_32, I.2.1, g, Gk_v, Gk_n, xcat_nil, xcat_i, xcat_r, xcat_l, xcat_d, Nat.zero_le, Nat.reduceAdd, Nat.reduceLeDiff, true_and, and_true, ykl_i, ykl_r, ykl_n, ykl_l]
theorem m_66 {t : yT} : Ra d 66 [.ref 32] (yemb t) (.inl none) (yemb (t.s1 32 2 0)) := by
  intro Q
  show G d 66 0 [some (.ref 32)] [] (yemb t) Q ↔ _
  simp only [s_66_0, s_66_1, s_66_2, s_66_3, yO_32, Gk_v, Gk_n, xcat_nil, xcat_i, xcat_r, xcat_l, xcat_d, Nat.zero_le, Nat.reduceAdd, Nat.reduceLeDiff, true_and, and_true, ykl_i, ykl_r, ykl_n, ykl_l]
end
