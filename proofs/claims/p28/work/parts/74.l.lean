/-! ===== the law's own strips: the row goes along ===== -/
theorem prem {k q : Nat} (hq : 2 ≤ q ∧ q < 10) (hk : k < 1000000) : yI k - yI k / yI q * yI q = yI (k % q) := yI_mod (by omega) (by omega) (by omega)
theorem pstut {D : yD} {p k q : Nat} (hk : D.kd p = 3) (hp : D.pd p = yI q) (hq : 2 ≤ q ∧ q < 10) (hf : D.fr p = yI k) (hb : k + 1 < 1000000) : ystut D p = decide ((k + 1) % q = 0) := by
  have h0 : (0 : Int32) < yI q := (yI_lt (n := 0) (by decide) (by omega)).mpr (by omega)
  have h1 : D.fr p + 1 = yI (k + 1) := by rw [hf]; exact yI_add
  unfold ystut
  rw [hk, hp, h1, prem (k := k + 1) hq (by omega), decide_eq_true h0]
  have h2 : (yI ((k + 1) % q) = 0) ↔ (k + 1) % q = 0 := yI_inj (m := 0) (by have := Nat.mod_lt (k + 1) (show q > 0 by omega); omega) (by decide)
  simp only [decide_true, Bool.true_and]
  by_cases h : (k + 1) % q = 0
  · rw [decide_eq_true h, decide_eq_true (h2.mpr h)]
  · rw [decide_eq_false h, decide_eq_false (fun g => h (h2.mp g))]
section
variable {d : Nat} {ls : xL} {σ : xS} {a : Nat} {l0 l1 l2 l3 l4 l5 : Option Value} {k pd bp fr og : Int32} {t u f : Nat}
/-- a lamp got a frame more -/
theorem g_143a (ha : a < 1000000) (h : σ.1 a = some (plamp k pd bp fr og t u f)) : Gg d 143 72 [l0, l1, l2, l3, l4, l5, some (.ref a)] [] σ 78 [l0, l1, l2, l3, l4, l5, some (.ref a)] [] (xwr σ a (plamp k pd bp (fr + 1) og t u f)) := by
  intro Q
  have hr : xRd σ a = some (plamp k pd bp fr og t u f) := by rw [yrd_lt ha, h]
  simp only [s_143_72, s_143_73, s_143_74, s_143_75, s_143_76, s_143_77, hr, h, ha, plamp, hgf_s, hsel_0, hsel_1, hsel_2, hsel_3, hsel_4, hsel_5, hsel_6, hsel_7, hsel_8, hset_0, hset_1, hset_2, hset_3, hset_4, hset_5, hset_6, hset_7, hset_8, hpf_s, hcl_s, hai_s, hpi_0, hpi_1, hln_0, hln_1, List.length_cons, List.length_nil, xwr_1, xwr_2, xnew_1, xnew_n, xnew_s, xnew_z, Nat.reduceLT, ite_true, and_self, hp_8_0, hp_8_1, hn_8_1, hp_8_2, hn_8_2, hp_9_0, hp_9_1, hp_9_2, hp_9_3, hp_9_4, hp_9_5, hn_9_5, hp_9_6, hn_9_6, hp_9_7, hn_9_7, hp_10_0, hp_10_1, hp_10_2, hn_10_2, hp_10_3, hn_10_3, hp_11_0, hp_12_0, hn_12_0, hp_12_1, hp_12_2, hp_12_3, hp_12_4, hp_12_5, hn_12_5, hp_12_6, hn_12_6, hp_12_7, hp_12_8, hp_13_0, hn_13_0, hp_13_1, hp_13_2, hp_13_3, hp_14_0, hn_14_0, hp_14_1, hp_14_2, hp_14_3, xdef_8, xdef_9, xdef_10, xdef_11, xdef_12, xdef_13, xdef_14, Gk_v, Gk_n, xcat_nil, xcat_i, xcat_r, xcat_l, xcat_d, Nat.zero_le, Nat.reduceAdd, Nat.reduceLeDiff, true_and, and_true, ykl_i, ykl_r, ykl_n, ykl_l]
theorem g_143b {c1 c2 : Nat → Int32} {n g p : Nat} {a1 a2 : Nat} (h1 : σ.1 a1 = some (pints n c1)) (h2 : σ.1 a2 = some (pints n c2)) (ha1 : a1 < 1000000) (ha2 : a2 < 1000000) (hg : g < n) (hp : p < n) (hn : n ≤ 40) : Gg d 143 85 [l0, some (.ref a1), some (.ref a2), l3, some (.int (yI g)), some (.int (yI p)), some (.ref a)] [] σ 91 [l0, some (.ref a1), some (.ref a2), l3, some (.int (yI g)), some (.int (yI p)), some (.ref a)] [] (xwr σ a1 (pints n (upd c1 p (c2 g)))) := by
  intro Q
  have c3 : yix (yI p) n := yix_I (by omega) (by omega)
  have c4 : (yI p).toNatClampNeg = p := yI_clamp (by omega)
  have c5 : yix (yI g) n := yix_I (by omega) (by omega)
  have c6 : (yI g).toNatClampNeg = g := yI_clamp (by omega)
  have hr2 : xRd σ a2 = some (pints n c2) := by rw [yrd_lt ha2, h2]
  simp only [s_143_85, s_143_86, s_143_87, s_143_88, s_143_89, s_143_90, h1, hr2, ha1, c3, c4, c5, c6, pints, hgf_s, hsel_0, hsel_1, hsel_2, hsel_3, hsel_4, hsel_5, hsel_6, hsel_7, hsel_8, hset_0, hset_1, hset_2, hset_3, hset_4, hset_5, hset_6, hset_7, hset_8, hpf_s, hcl_s, hai_s, hpi_0, hpi_1, hln_0, hln_1, List.length_cons, List.length_nil, xwr_1, xwr_2, xnew_1, xnew_n, xnew_s, xnew_z, Nat.reduceLT, ite_true, and_self, hp_8_0, hp_8_1, hn_8_1, hp_8_2, hn_8_2, hp_9_0, hp_9_1, hp_9_2, hp_9_3, hp_9_4, hp_9_5, hn_9_5, hp_9_6, hn_9_6, hp_9_7, hn_9_7, hp_10_0, hp_10_1, hp_10_2, hn_10_2, hp_10_3, hn_10_3, hp_11_0, hp_12_0, hn_12_0, hp_12_1, hp_12_2, hp_12_3, hp_12_4, hp_12_5, hn_12_5, hp_12_6, hn_12_6, hp_12_7, hp_12_8, hp_13_0, hn_13_0, hp_13_1, hp_13_2, hp_13_3, hp_14_0, hn_14_0, hp_14_1, hp_14_2, hp_14_3, xdef_8, xdef_9, xdef_10, xdef_11, xdef_12, xdef_13, xdef_14, Gk_v, Gk_n, xcat_nil, xcat_i, xcat_r, xcat_l, xcat_d, Nat.zero_le, Nat.reduceAdd, Nat.reduceLeDiff, true_and, and_true, ykl_i, ykl_r, ykl_n, ykl_l]
theorem g_143c {c2 : Nat → Int32} {n g : Nat} {a2 : Nat} (ha : a < 1000000) (h : σ.1 a = some (plamp k pd bp fr og t u f)) (h2 : σ.1 a2 = some (pints n c2)) (ha2 : a2 < 1000000) (hg : g < n) (hn : n ≤ 40) : Gg d 143 91 [l0, l1, some (.ref a2), l3, some (.int (yI g)), l5, some (.ref a)] [] σ 96 [l0, l1, some (.ref a2), l3, some (.int (yI g)), l5, some (.ref a)] [] (xwr σ a (plamp k pd bp fr (c2 g) t u f)) := by
  intro Q
  have c5 : yix (yI g) n := yix_I (by omega) (by omega)
  have c6 : (yI g).toNatClampNeg = g := yI_clamp (by omega)
  have hr2 : xRd σ a2 = some (pints n c2) := by rw [yrd_lt ha2, h2]
  simp only [s_143_91, s_143_92, s_143_93, s_143_94, s_143_95, h, hr2, ha, c5, c6, plamp, pints, hgf_s, hsel_0, hsel_1, hsel_2, hsel_3, hsel_4, hsel_5, hsel_6, hsel_7, hsel_8, hset_0, hset_1, hset_2, hset_3, hset_4, hset_5, hset_6, hset_7, hset_8, hpf_s, hcl_s, hai_s, hpi_0, hpi_1, hln_0, hln_1, List.length_cons, List.length_nil, xwr_1, xwr_2, xnew_1, xnew_n, xnew_s, xnew_z, Nat.reduceLT, ite_true, and_self, hp_8_0, hp_8_1, hn_8_1, hp_8_2, hn_8_2, hp_9_0, hp_9_1, hp_9_2, hp_9_3, hp_9_4, hp_9_5, hn_9_5, hp_9_6, hn_9_6, hp_9_7, hn_9_7, hp_10_0, hp_10_1, hp_10_2, hn_10_2, hp_10_3, hn_10_3, hp_11_0, hp_12_0, hn_12_0, hp_12_1, hp_12_2, hp_12_3, hp_12_4, hp_12_5, hn_12_5, hp_12_6, hn_12_6, hp_12_7, hp_12_8, hp_13_0, hn_13_0, hp_13_1, hp_13_2, hp_13_3, hp_14_0, hn_14_0, hp_14_1, hp_14_2, hp_14_3, xdef_8, xdef_9, xdef_10, xdef_11, xdef_12, xdef_13, xdef_14, Gk_v, Gk_n, xcat_nil, xcat_i, xcat_r, xcat_l, xcat_d, Nat.zero_le, Nat.reduceAdd, Nat.reduceLeDiff, true_and, and_true, ykl_i, ykl_r, ykl_n, ykl_l]
end
theorem psog_stk {D : yD} {f g : Nat → Int32} : (D.sog f).stk g = (D.stk g).sog f := rfl
/-- a strip beside two rows, while a frame goes along -/
def pB (lo hi s a1 a2 n : Nat) (cv : Value) (dn en : Int32) (σ0 : xS) (c' s' : Nat) (σ : xS) (R : pR) (D : yD) (c1 c2 : Nat → Int32) : Prop :=
  pS σ s R D cv dn en ∧ (pZ σ ∧ (pJ lo hi s R D ∧ ((pnx R n a1 ∧ pnx R n a2) ∧ (σ.1 a1 = some (pints n c1) ∧ (σ.1 a2 = some (pints n c2) ∧ pF (pP lo hi σ0) c' s' σ0 σ)))))
section
variable {lo hi s a1 a2 n c' s' p f : Nat} {cv : Value} {dn en : Int32} {σ0 σ : xS} {R R' : pR} {D D' : yD} {c1 c2 : Nat → Int32} {x : xE}
theorem pB.lamp (B : pB lo hi s a1 a2 n cv dn en σ0 c' s' σ R D c1 c2) (hp : p < D.n) (hR : plkR R R') (hD : plkD D D') (hq : ∀ q, q ≠ p → plkp R R' D D' q) (hc : (pC σ (R'.tk p) (D'.tk p) ∧ pcol (D'.tk p)) ∧ ((pC σ (R'.du p) (D'.du p) ∧ pcol (D'.du p)) ∧ (pC σ (R'.fm p) (D'.fm p) ∧ pcol (D'.fm p)))) (x1 : pnx R' n a1) (x2 : pnx R' n a2) (p1 : ¬ pin lo hi a1) (p2 : ¬ pin lo hi a2) (hx : x = plamp (D'.kd p) (D'.pd p) (yb (D'.bp p)) (D'.fr p) (D'.og p) (R'.tk p) (R'.du p) (R'.fm p)) : pB lo hi s a1 a2 n cv dn en σ0 c' s' (xwr σ (R.lm p) x) R' D' c1 c2 := by
  obtain ⟨S, Z, J, -, h1, h2, F⟩ := B
  have hl := (S.2.2.1 p hp).2
  have hlmi := J.2.2.2.1.1 p hp
  subst hx
  refine ⟨S.lamp J hp hR hD hq hc, pZ_wr Z hl, J.to hR hD.1 hD.2.1, ⟨x1, x2⟩, ?_, ?_, pF_own F Z hl pco_lamp hlmi⟩
  · rw [xwr_1, if_neg (fun q => p1 (by rw [q]; exact hlmi))]; exact h1
  · rw [xwr_1, if_neg (fun q => p2 (by rw [q]; exact hlmi))]; exact h2
theorem pB.row (B : pB lo hi s a1 a2 n cv dn en σ0 c' s' σ R D c1 c2) (hn : D.n = n) (ha1 : σ0.2.1.1 ≤ a1) (ha : a1 ≠ a2) (p1 : ¬ pin lo hi a1) {c3 : Nat → Int32} : pB lo hi s a1 a2 n cv dn en σ0 c' s' (xwr σ a1 (pints n c3)) R D c3 c2 := by
  obtain ⟨S, Z, J, ⟨x1, x2⟩, h1, h2, F⟩ := B
  exact ⟨S.wr J p1 (by rw [hn]; exact x1), pZ_wr Z h1, J, ⟨x1, x2⟩, by rw [xwr_1, if_pos rfl], by rw [xwr_1, if_neg (fun q => ha q.symm)]; exact h2, pF_hi F Z h1 ha1⟩
theorem pB.t1 (B : pB lo hi s a1 a2 n cv dn en σ0 c' s' σ R D c1 c2) (hp : p < D.n) (p1 : ¬ pin lo hi a1) (p2 : ¬ pin lo hi a2) : pB lo hi s a1 a2 n cv dn en σ0 c' s' (xwr σ (R.lm p) (plamp (D.kd p) (D.pd p) (yb (D.bp p)) (D.fr p + 1) (D.og p) (R.tk p) (R.du p) (R.fm p))) R (D.sfr (upd D.fr p (D.fr p + 1))) c1 c2 := by
  refine B.lamp hp ⟨rfl, rfl, rfl, rfl⟩ ⟨rfl, rfl, rfl, rfl, rfl, rfl, rfl, rfl⟩ (fun q hq => ⟨rfl, rfl, rfl, yupd_ne hq, rfl, rfl, rfl, rfl, rfl, rfl, rfl⟩) ⟨B.1.tk hp, B.1.du hp, B.1.fm hp⟩ B.2.2.2.1.1 B.2.2.2.1.2 p1 p2 ?_
  show _ = plamp _ _ _ (upd D.fr p _ p) _ _ _ _
  rw [yupd_same]
  rfl
theorem pB.t2 (B : pB lo hi s a1 a2 n cv dn en σ0 c' s' σ R D c1 c2) (hp : p < D.n) (p1 : ¬ pin lo hi a1) (p2 : ¬ pin lo hi a2) : pB lo hi s a1 a2 n cv dn en σ0 c' s' (xwr σ (R.lm p) (plamp (D.kd p) (D.pd p) (yb (D.bp p)) (D.fr p) (yI f) (R.tk p) (R.du p) (R.fm p))) R (D.sog (upd D.og p (yI f))) c1 c2 := by
  refine B.lamp hp ⟨rfl, rfl, rfl, rfl⟩ ⟨rfl, rfl, rfl, rfl, rfl, rfl, rfl, rfl⟩ (fun q hq => ⟨rfl, rfl, rfl, rfl, yupd_ne hq, rfl, rfl, rfl, rfl, rfl, rfl⟩) ⟨B.1.tk hp, B.1.du hp, B.1.fm hp⟩ B.2.2.2.1.1 B.2.2.2.1.2 p1 p2 ?_
  show _ = plamp _ _ _ _ (upd D.og p _ p) _ _ _
  rw [yupd_same]
  rfl
theorem pB.t3 (B : pB lo hi s a1 a2 n cv dn en σ0 c' s' σ R D c1 c2) (hp : p < D.n) (hf : f < D.n) (hn : D.n = n) (p1 : ¬ pin lo hi a1) (p2 : ¬ pin lo hi a2) : pB lo hi s a1 a2 n cv dn en σ0 c' s' (xwr σ (R.lm p) (plamp (D.kd p) (D.pd p) (yb (D.bp p)) (D.fr p) (D.og p) (R.du f) (R.du p) (R.fm p))) (R.stk (pup R.tk p (R.du f))) (D.stk (upd D.tk p (D.du f))) c1 c2 := by
  have y : ∀ a, pnx R n a → pnx (R.stk (pup R.tk p (R.du f))) n a := fun a x q hq => by
    obtain ⟨y1, y2, y3⟩ := x q hq
    refine ⟨?_, y2, y3⟩
    show pup R.tk p (R.du f) q ≠ a
    unfold pup
    split
    · exact (x f (by omega)).2.1
    · exact y1
  refine B.lamp hp ⟨rfl, rfl, rfl, rfl⟩ ⟨rfl, rfl, rfl, rfl, rfl, rfl, rfl, rfl⟩ (fun q hq => ⟨rfl, rfl, rfl, rfl, rfl, yupd_ne hq, rfl, rfl, pup_ne hq, rfl, rfl⟩) ⟨⟨?_, ?_⟩, B.1.du hp, B.1.fm hp⟩ (y _ B.2.2.2.1.1) (y _ B.2.2.2.1.2) p1 p2 ?_
  · show pC σ (pup R.tk p (R.du f) p) (upd D.tk p (D.du f) p)
    rw [pup_same, yupd_same]
    exact (B.1.du hf).1
  · show pcol (upd D.tk p (D.du f) p)
    rw [yupd_same]
    exact (B.1.du hf).2
  · show _ = plamp _ _ _ _ _ (pup R.tk p _ p) _ _
    rw [pup_same]
    rfl
variable {d : Nat} {l0 l1 l3 l5 : Option Value}
theorem g_143d {g : Nat} (B : pB lo hi s a1 a2 n cv dn en σ0 c' s' σ R D c1 c2) (hD : yDok D) (hn : D.n = n) (hp : p < D.n) (hf : f < D.n) (hg : g < n) (hr : c2 g = yI f) (ha2 : a2 < 1000000) : Gg d 143 96 [some (.ref s), l1, some (.ref a2), l3, some (.int (yI g)), l5, some (.ref (R.lm p))] [] σ 105 [some (.ref s), l1, some (.ref a2), l3, some (.int (yI g)), l5, some (.ref (R.lm p))] [] (xwr σ (R.lm p) (plamp (D.kd p) (D.pd p) (yb (D.bp p)) (D.fr p) (D.og p) (R.du f) (R.du p) (R.fm p))) := by
  intro Q
  obtain ⟨S, Z, J, -, h1, h2, F⟩ := B
  have hn40 := hD.n40
  have c5 : yix (yI g) n := yix_I (by omega) (by omega)
  have c6 : (yI g).toNatClampNeg = g := yI_clamp (by omega)
  have c7 : yix (yI f) D.n := yix_I (by omega) (by omega)
  have c8 : (yI f).toNatClampNeg = f := yI_clamp (by omega)
  have hr2 : xRd σ a2 = some (pints n c2) := by rw [yrd_lt ha2, h2]
  obtain ⟨gc, uc, vc⟩ := S.lrow
  have oc := S.ob
  have hlr := S.lr0
  have lc := (S.2.2.1 p hp).2
  have lf := S.lm1 hf
  have lfo := S.lm0 hf
  have lo1 := S.lm0 hp
  simp only [s_143_96, s_143_97, s_143_98, s_143_99, s_143_100, s_143_101, s_143_102, s_143_103, s_143_104, oc, uc, vc f hf, lf, lfo, lo1, lc, hr2, haa_t hlr (show 4 ≤ 6 ∧ 6 ≤ 8 by decide), c5, c6, c7, c8, hop_s, hr, plamp, pints, hgf_s, hsel_0, hsel_1, hsel_2, hsel_3, hsel_4, hsel_5, hsel_6, hsel_7, hsel_8, hset_0, hset_1, hset_2, hset_3, hset_4, hset_5, hset_6, hset_7, hset_8, hpf_s, hcl_s, hai_s, hpi_0, hpi_1, hln_0, hln_1, List.length_cons, List.length_nil, xwr_1, xwr_2, xnew_1, xnew_n, xnew_s, xnew_z, Nat.reduceLT, ite_true, and_self, hp_8_0, hp_8_1, hn_8_1, hp_8_2, hn_8_2, hp_9_0, hp_9_1, hp_9_2, hp_9_3, hp_9_4, hp_9_5, hn_9_5, hp_9_6, hn_9_6, hp_9_7, hn_9_7, hp_10_0, hp_10_1, hp_10_2, hn_10_2, hp_10_3, hn_10_3, hp_11_0, hp_12_0, hn_12_0, hp_12_1, hp_12_2, hp_12_3, hp_12_4, hp_12_5, hn_12_5, hp_12_6, hn_12_6, hp_12_7, hp_12_8, hp_13_0, hn_13_0, hp_13_1, hp_13_2, hp_13_3, hp_14_0, hn_14_0, hp_14_1, hp_14_2, hp_14_3, xdef_8, xdef_9, xdef_10, xdef_11, xdef_12, xdef_13, xdef_14, Gk_v, Gk_n, xcat_nil, xcat_i, xcat_r, xcat_l, xcat_d, Nat.zero_le, Nat.reduceAdd, Nat.reduceLeDiff, true_and, and_true, ykl_i, ykl_r, ykl_n, ykl_l]
end
section
variable {d s : Nat} {cv : Value} {dn en : Int32} {lo hi : Nat}
/-- a lamp that gets a color: its places -/
theorem g_143e {a1 a2 n c' s' p f M : Nat} {σ0 σ : xS} {R : pR} {D : yD} {c1 c2 : Nat → Int32} (B : pB lo hi s a1 a2 n cv dn en σ0 c' s' σ R D c1 c2) (hD : yDok D) (hn : D.n = n) (ha1 : σ0.2.1.1 ≤ a1) (ha : a1 ≠ a2) (h1 : a1 < 1000000) (h2 : a2 < 1000000) (p1 : ¬ pin lo hi a1) (p2 : ¬ pin lo hi a2) (hp : p < n) (hf : f < n) (hg : pct D f < n) (hr : c2 (pct D f) = yI f) (hk : ¬ D.kd p = 1) {l3 : Option Value} : ∃ σd, Gg d 143 78 [some (.ref s), some (.ref a1), some (.ref a2), l3, some (.int (yI (pct D f))), some (.int (yI p)), some (.ref (R.lm p))] [] σ 105 [some (.ref s), some (.ref a1), some (.ref a2), l3, some (.int (yI (pct D f))), some (.int (yI p)), some (.ref (R.lm p))] [] σd ∧ (pB lo hi s a1 a2 n cv dn en σ0 c' s' σd (R.stk (pup R.tk p (R.du f))) ((D.sog (upd D.og p (yI f))).stk (upd D.tk p (D.du f))) (upd c1 p (yI f)) c2 ∧ σd.2.1.1 = σ.2.1.1) := by
  have hn40 := hD.n40
  have hpD : p < D.n := by omega
  have lr1 := B.1.lm1 hpD
  have lo1 := B.1.lm0 hpD
  have lc1 := (B.1.2.2.1 p hpD).2
  have w3 : ∀ Q, G d 143 78 [some (.ref s), some (.ref a1), some (.ref a2), l3, some (.int (yI (pct D f))), some (.int (yI p)), some (.ref (R.lm p))] [] σ Q ↔ G d 143 85 [some (.ref s), some (.ref a1), some (.ref a2), l3, some (.int (yI (pct D f))), some (.int (yI p)), some (.ref (R.lm p))] [] σ Q := by
    intro Q
    simp only [s_143_78, s_143_79, s_143_80, s_143_81, lr1, plamp, ne_eq, hk, not_false_eq_true, if_true, hgf_s, hsel_0, hsel_1, hsel_2, hsel_3, hsel_4, hsel_5, hsel_6, hsel_7, hsel_8, hset_0, hset_1, hset_2, hset_3, hset_4, hset_5, hset_6, hset_7, hset_8, hpf_s, hcl_s, hai_s, hpi_0, hpi_1, hln_0, hln_1, List.length_cons, List.length_nil, xwr_1, xwr_2, xnew_1, xnew_n, xnew_s, xnew_z, Nat.reduceLT, ite_true, and_self, hp_8_0, hp_8_1, hn_8_1, hp_8_2, hn_8_2, hp_9_0, hp_9_1, hp_9_2, hp_9_3, hp_9_4, hp_9_5, hn_9_5, hp_9_6, hn_9_6, hp_9_7, hn_9_7, hp_10_0, hp_10_1, hp_10_2, hn_10_2, hp_10_3, hn_10_3, hp_11_0, hp_12_0, hn_12_0, hp_12_1, hp_12_2, hp_12_3, hp_12_4, hp_12_5, hn_12_5, hp_12_6, hn_12_6, hp_12_7, hp_12_8, hp_13_0, hn_13_0, hp_13_1, hp_13_2, hp_13_3, hp_14_0, hn_14_0, hp_14_1, hp_14_2, hp_14_3, xdef_8, xdef_9, xdef_10, xdef_11, xdef_12, xdef_13, xdef_14, Gk_v, Gk_n, xcat_nil, xcat_i, xcat_r, xcat_l, xcat_d, Nat.zero_le, Nat.reduceAdd, Nat.reduceLeDiff, true_and, and_true, ykl_i, ykl_r, ykl_n, ykl_l]
  have w4 := g_143b (d := d) (l0 := some (.ref s)) (l3 := l3) (a := R.lm p) (g := pct D f) (p := p) B.2.2.2.2.1 B.2.2.2.2.2.1 h1 h2 hg hp (by omega)
  rw [hr] at w4
  have B1 := B.row hn ha1 ha p1 (c3 := upd c1 p (yI f))
  obtain ⟨σb, eb⟩ : ∃ σb, σb = xwr σ a1 (pints n (upd c1 p (yI f))) := ⟨_, rfl⟩
  have nb : σb.2.1.1 = σ.2.1.1 := by rw [eb]; rfl
  rw [← eb] at w4 B1
  have w5 := g_143c (d := d) (l0 := some (.ref s)) (l1 := some (.ref a1)) (l3 := l3) (l5 := some (.int (yI p))) (g := pct D f) lo1 (B1.1.2.2.1 p hpD).2 B1.2.2.2.2.2.1 h2 hg (by omega)
  rw [hr] at w5
  have B2 := B1.t2 (f := f) hpD p1 p2
  obtain ⟨σc, ec⟩ : ∃ σc, σc = xwr σb (R.lm p) (plamp (D.kd p) (D.pd p) (yb (D.bp p)) (D.fr p) (yI f) (R.tk p) (R.du p) (R.fm p)) := ⟨_, rfl⟩
  have nc : σc.2.1.1 = σb.2.1.1 := by rw [ec]; rfl
  rw [← ec] at w5 B2
  obtain ⟨E, hE⟩ : ∃ E, E = D.sog (upd D.og p (yI f)) := ⟨_, rfl⟩
  have hDE : yDok E := by rw [hE]; exact yDok_og hD (by omega)
  have hEn : E.n = D.n := by rw [hE]; rfl
  have hEd : E.du = D.du := by rw [hE]; rfl
  have hEt : E.tk = D.tk := by rw [hE]; rfl
  rw [← hE] at B2
  have w6 := g_143d (d := d) (l1 := some (.ref a1)) (l3 := l3) (l5 := some (.int (yI p))) B2 hDE (hEn.trans hn) (p := p) (f := f) (by omega) (by omega) hg hr h2
  have B3 := B2.t3 (p := p) (f := f) (by omega) (by omega) (hEn.trans hn) p1 p2
  rw [hEd, hEt] at B3
  rw [← hE]
  refine ⟨_, fun Q => (w3 Q).trans ((w4 Q).trans ((w5 Q).trans (w6 Q))), B3, ?_⟩
  show σc.2.1.1 = _
  omega
theorem l_143b {a1 a2 n M : Nat} {σ0 : xS} (ha1 : σ0.2.1.1 ≤ a1) (ha : a1 < a2) (hh : hi ≤ σ0.2.1.1) (hM : M + 1 < 1000000) :
    ∀ m p f (σ : xS) (R : pR) (D : yD) (c1 c2 : Nat → Int32) (c' s' : Nat) l6, yDok D → D.n = n → (f ≤ n ∧ (f < n → D.bp f = false)) → pB lo hi s a1 a2 n cv dn en σ0 c' s' σ R D c1 c2 → (∀ q, q < n → D.bp q = false → c2 (pct D q) = yI q) → (∀ q, p ≤ q → q < n → ∃ k : Nat, k ≤ M ∧ D.fr q = yI k) → σ.2.1.1 ≤ 900000 → p + m = n →
    ∃ τ R' c1', Ga d 143 55 [some (.ref s), some (.ref a1), some (.ref a2), some (.int (yI (pct D n))), some (.int (yI (pct D f))), some (.int (yI p)), l6] [] σ (.inl (some (.ref a1))) τ ∧ pB lo hi s a1 a2 n cv dn en σ0 c' s' τ R' (ygo m p f D) c1' c2 := by
  intro m
  induction m with
  | zero =>
    intro p f σ R D c1 c2 c' s' l6 hD hn hf B hc hM' hr hp
    have e : p = n := by omega
    subst e
    have o1 := B.1.ob
    obtain ⟨gg, e1, e2⟩ := B.1.lrow
    rw [hn] at e1
    refine ⟨σ, R, c1, fun Q => ?_, B⟩
    rw [s_143_55]
    simp only [s_143_56, s_143_57, s_143_58, s_143_59, s_143_118, s_143_119, o1, e1, hln_r B.1.lr0 (show 4 ≤ 6 ∧ 6 ≤ 8 by decide), Int32.le_refl, if_true, hgf_s, hsel_0, hsel_1, hsel_2, hsel_3, hsel_4, hsel_5, hsel_6, hsel_7, hsel_8, hset_0, hset_1, hset_2, hset_3, hset_4, hset_5, hset_6, hset_7, hset_8, hpf_s, hcl_s, hai_s, hpi_0, hpi_1, hln_0, hln_1, List.length_cons, List.length_nil, xwr_1, xwr_2, xnew_1, xnew_n, xnew_s, xnew_z, Nat.reduceLT, ite_true, and_self, hp_8_0, hp_8_1, hn_8_1, hp_8_2, hn_8_2, hp_9_0, hp_9_1, hp_9_2, hp_9_3, hp_9_4, hp_9_5, hn_9_5, hp_9_6, hn_9_6, hp_9_7, hn_9_7, hp_10_0, hp_10_1, hp_10_2, hn_10_2, hp_10_3, hn_10_3, hp_11_0, hp_12_0, hn_12_0, hp_12_1, hp_12_2, hp_12_3, hp_12_4, hp_12_5, hn_12_5, hp_12_6, hn_12_6, hp_12_7, hp_12_8, hp_13_0, hn_13_0, hp_13_1, hp_13_2, hp_13_3, hp_14_0, hn_14_0, hp_14_1, hp_14_2, hp_14_3, xdef_8, xdef_9, xdef_10, xdef_11, xdef_12, xdef_13, xdef_14, Gk_v, Gk_n, xcat_nil, xcat_i, xcat_r, xcat_l, xcat_d, Nat.zero_le, Nat.reduceAdd, Nat.reduceLeDiff, true_and, and_true, ykl_i, ykl_r, ykl_n, ykl_l]
  | succ m ih =>
    intro p f σ R D c1 c2 c' s' l6 hD hn hf B hc hM' hr hp
    have hn40 := hD.n40
    have hpn : p < D.n := by omega
    have z1 : ¬ yI D.n ≤ yI p := fun h => absurd ((yI_le (by omega) (by omega)).mp h) (by omega)
    have z4 : yI p + 1 = yI (p + 1) := yI_add
    have c3 : yix (yI p) D.n := yix_I (by omega) (by omega)
    have c4 : (yI p).toNatClampNeg = p := yI_clamp (by omega)
    have hlt1 := pZ_lt B.2.1 B.2.2.2.2.1
    have hlt2 := pZ_lt B.2.1 B.2.2.2.2.2.1
    have a19 : a1 < 1000000 := by omega
    have a29 : a2 < 1000000 := by omega
    have p1 : ¬ pin lo hi a1 := fun q => by have := q.2; omega
    have p2 : ¬ pin lo hi a2 := fun q => by have := q.2; omega
    have o0 := B.1.ob
    obtain ⟨g0, u0, v0⟩ := B.1.lrow
    have hlr := B.1.lr0
    have lo1 := B.1.lm0 hpn
    have lr1 := B.1.lm1 hpn
    have lc1 := (B.1.2.2.1 p hpn).2
    have hct : ∀ q, pct D q ≤ q := fun q => pct_le
    have hcf := hct f
    have hcn := hct n
    have w0 : ∀ Q, G d 143 55 [some (.ref s), some (.ref a1), some (.ref a2), some (.int (yI (pct D n))), some (.int (yI (pct D f))), some (.int (yI p)), l6] [] σ Q ↔ G d 143 65 [some (.ref s), some (.ref a1), some (.ref a2), some (.int (yI (pct D n))), some (.int (yI (pct D f))), some (.int (yI p)), some (.ref (R.lm p))] [] σ Q := by
      intro Q
      rw [s_143_55]
      simp only [s_143_56, s_143_57, s_143_58, s_143_59, s_143_60, s_143_61, s_143_62, s_143_63, s_143_64 lo1, o0, u0, v0 p hpn, lo1, hln_r hlr (show 4 ≤ 6 ∧ 6 ≤ 8 by decide), haa_t hlr (show 4 ≤ 6 ∧ 6 ≤ 8 by decide), z1, c3, c4, hop_s, if_false, hgf_s, hsel_0, hsel_1, hsel_2, hsel_3, hsel_4, hsel_5, hsel_6, hsel_7, hsel_8, hset_0, hset_1, hset_2, hset_3, hset_4, hset_5, hset_6, hset_7, hset_8, hpf_s, hcl_s, hai_s, hpi_0, hpi_1, hln_0, hln_1, List.length_cons, List.length_nil, xwr_1, xwr_2, xnew_1, xnew_n, xnew_s, xnew_z, Nat.reduceLT, ite_true, and_self, hp_8_0, hp_8_1, hn_8_1, hp_8_2, hn_8_2, hp_9_0, hp_9_1, hp_9_2, hp_9_3, hp_9_4, hp_9_5, hn_9_5, hp_9_6, hn_9_6, hp_9_7, hn_9_7, hp_10_0, hp_10_1, hp_10_2, hn_10_2, hp_10_3, hn_10_3, hp_11_0, hp_12_0, hn_12_0, hp_12_1, hp_12_2, hp_12_3, hp_12_4, hp_12_5, hn_12_5, hp_12_6, hn_12_6, hp_12_7, hp_12_8, hp_13_0, hn_13_0, hp_13_1, hp_13_2, hp_13_3, hp_14_0, hn_14_0, hp_14_1, hp_14_2, hp_14_3, xdef_8, xdef_9, xdef_10, xdef_11, xdef_12, xdef_13, xdef_14, Gk_v, Gk_n, xcat_nil, xcat_i, xcat_r, xcat_l, xcat_d, Nat.zero_le, Nat.reduceAdd, Nat.reduceLeDiff, true_and, and_true, ykl_i, ykl_r, ykl_n, ykl_l]
    cases hb : D.bp p
    · by_cases hfn : f < n
      · have hbf := hf.2 hfn
        have hlt : pct D f < pct D n := pct_lt hfn hbf
        have hne : ¬ yI (pct D f) = yI (pct D n) := fun q => by
          have := (yI_inj (by omega) (by omega)).mp q
          omega
        obtain ⟨k, hk, hfr⟩ := hM' p (Nat.le_refl _) (by omega)
        have w1 : ∀ Q, G d 143 65 [some (.ref s), some (.ref a1), some (.ref a2), some (.int (yI (pct D n))), some (.int (yI (pct D f))), some (.int (yI p)), some (.ref (R.lm p))] [] σ Q ↔ G d 143 72 [some (.ref s), some (.ref a1), some (.ref a2), some (.int (yI (pct D n))), some (.int (yI (pct D f))), some (.int (yI p)), some (.ref (R.lm p))] [] σ Q := by
          intro Q
          simp only [s_143_65, s_143_66, s_143_67, s_143_68, s_143_69, s_143_70, lr1, plamp, hb, yb, ne_eq, Bool.false_eq_true, not_true_eq_false, if_false, hne, not_false_eq_true, if_true, hgf_s, hsel_0, hsel_1, hsel_2, hsel_3, hsel_4, hsel_5, hsel_6, hsel_7, hsel_8, hset_0, hset_1, hset_2, hset_3, hset_4, hset_5, hset_6, hset_7, hset_8, hpf_s, hcl_s, hai_s, hpi_0, hpi_1, hln_0, hln_1, List.length_cons, List.length_nil, xwr_1, xwr_2, xnew_1, xnew_n, xnew_s, xnew_z, Nat.reduceLT, ite_true, and_self, hp_8_0, hp_8_1, hn_8_1, hp_8_2, hn_8_2, hp_9_0, hp_9_1, hp_9_2, hp_9_3, hp_9_4, hp_9_5, hn_9_5, hp_9_6, hn_9_6, hp_9_7, hn_9_7, hp_10_0, hp_10_1, hp_10_2, hn_10_2, hp_10_3, hn_10_3, hp_11_0, hp_12_0, hn_12_0, hp_12_1, hp_12_2, hp_12_3, hp_12_4, hp_12_5, hn_12_5, hp_12_6, hn_12_6, hp_12_7, hp_12_8, hp_13_0, hn_13_0, hp_13_1, hp_13_2, hp_13_3, hp_14_0, hn_14_0, hp_14_1, hp_14_2, hp_14_3, xdef_8, xdef_9, xdef_10, xdef_11, xdef_12, xdef_13, xdef_14, Gk_v, Gk_n, xcat_nil, xcat_i, xcat_r, xcat_l, xcat_d, Nat.zero_le, Nat.reduceAdd, Nat.reduceLeDiff, true_and, and_true, ykl_i, ykl_r, ykl_n, ykl_l]
        have w2 := g_143a (d := d) (l0 := some (.ref s)) (l1 := some (.ref a1)) (l2 := some (.ref a2)) (l3 := some (.int (yI (pct D n)))) (l4 := some (.int (yI (pct D f)))) (l5 := some (.int (yI p))) lo1 lc1
        have Ba := B.t1 hpn p1 p2
        obtain ⟨σa, ea⟩ : ∃ σa, σa = xwr σ (R.lm p) (plamp (D.kd p) (D.pd p) (yb (D.bp p)) (D.fr p + 1) (D.og p) (R.tk p) (R.du p) (R.fm p)) := ⟨_, rfl⟩
        have nxa : σa.2.1.1 = σ.2.1.1 := by rw [ea]; rfl
        rw [← ea] at Ba w2
        have hgo : ygo (m + 1) p f D = if D.kd p = 1 then D.sfr (upd D.fr p (D.fr p + 1)) else ygo m (p + 1) (if ystut D p = true then f else ynx D.bp (D.n - (f + 1)) (f + 1)) (ytkS D p (D.du f) (yI f)) := by
          show (if D.bp p = true then _ else if f < D.n then _ else _) = _
          rw [hb, if_neg (by decide), if_pos (by omega)]
        rw [hgo]
        obtain ⟨E, hE⟩ : ∃ E, E = D.sfr (upd D.fr p (D.fr p + 1)) := ⟨_, rfl⟩
        have hDE : yDok E := by rw [hE]; exact yDok_sfr hD
        have hEn : E.n = D.n := by rw [hE]; rfl
        have hEb : E.bp = D.bp := by rw [hE]; rfl
        have hEk : E.kd = D.kd := by rw [hE]; rfl
        have hEp : E.pd = D.pd := by rw [hE]; rfl
        have hEf : E.fr p = D.fr p + 1 := by rw [hE]; exact yupd_same
        have hEq : ∀ q, q ≠ p → E.fr q = D.fr q := fun q hq => by rw [hE]; exact yupd_ne hq
        have hEc : ∀ q, pct E q = pct D q := fun q => by unfold pct; rw [hEb]
        have hEo : E.og = D.og := by rw [hE]; rfl
        have hEk' : E.tk = D.tk := by rw [hE]; rfl
        have hEu : E.du = D.du := by rw [hE]; rfl
        have hEt : (E.sog (upd E.og p (yI f))).stk (upd E.tk p (E.du f)) = ytkS D p (D.du f) (yI f) := by
          rw [hEo, hEk', hEu, psog_stk, hE]
          unfold ytkS
          exact rfl
        rw [← hE] at Ba ⊢
        have lra := Ba.1.lm1 (p := p) (by omega)
        by_cases hk1 : D.kd p = 1
        · rw [if_pos hk1]
          have hgo' : ygo m (p + 1) n E = E := ygo_end m (p + 1) _ (by omega)
          obtain ⟨τ, R', c1', i1, i2⟩ := ih (p + 1) n σa R E c1 c2 c' s' (some (.ref (R.lm p))) hDE (hEn.trans hn) ⟨Nat.le_refl _, fun h => absurd h (Nat.lt_irrefl _)⟩ Ba (fun q hq hqb => by rw [hEc]; exact hc q hq (by rw [← hEb]; exact hqb)) (fun q hq hqn => by
            obtain ⟨k', hk', he⟩ := hM' q (by omega) hqn
            exact ⟨k', hk', by rw [hEq q (by omega)]; exact he⟩) (by omega) (by omega)
          rw [hgo'] at i2
          refine ⟨τ, R', c1', fun Q => ?_, i2⟩
          have j1 := i1 Q
          rw [hEc] at j1
          refine (w0 Q).trans ((w1 Q).trans ((w2 Q).trans ?_))
          refine Iff.trans ?_ j1
          have hk2 : E.kd p = 1 := by rw [hEk]; exact hk1
          simp only [s_143_78, s_143_79, s_143_80, s_143_81, s_143_82, s_143_83, s_143_84, s_143_116, s_143_117, lra, plamp, hk2, ne_eq, not_true_eq_false, if_false, z4, hgf_s, hsel_0, hsel_1, hsel_2, hsel_3, hsel_4, hsel_5, hsel_6, hsel_7, hsel_8, hset_0, hset_1, hset_2, hset_3, hset_4, hset_5, hset_6, hset_7, hset_8, hpf_s, hcl_s, hai_s, hpi_0, hpi_1, hln_0, hln_1, List.length_cons, List.length_nil, xwr_1, xwr_2, xnew_1, xnew_n, xnew_s, xnew_z, Nat.reduceLT, ite_true, and_self, hp_8_0, hp_8_1, hn_8_1, hp_8_2, hn_8_2, hp_9_0, hp_9_1, hp_9_2, hp_9_3, hp_9_4, hp_9_5, hn_9_5, hp_9_6, hn_9_6, hp_9_7, hn_9_7, hp_10_0, hp_10_1, hp_10_2, hn_10_2, hp_10_3, hn_10_3, hp_11_0, hp_12_0, hn_12_0, hp_12_1, hp_12_2, hp_12_3, hp_12_4, hp_12_5, hn_12_5, hp_12_6, hn_12_6, hp_12_7, hp_12_8, hp_13_0, hn_13_0, hp_13_1, hp_13_2, hp_13_3, hp_14_0, hn_14_0, hp_14_1, hp_14_2, hp_14_3, xdef_8, xdef_9, xdef_10, xdef_11, xdef_12, xdef_13, xdef_14, Gk_v, Gk_n, xcat_nil, xcat_i, xcat_r, xcat_l, xcat_d, Nat.zero_le, Nat.reduceAdd, Nat.reduceLeDiff, true_and, and_true, ykl_i, ykl_r, ykl_n, ykl_l]
        · rw [if_neg hk1]
          have hrow := hc f hfn hbf
          have hkE : ¬ E.kd p = 1 := by rw [hEk]; exact hk1
          obtain ⟨σd, w3, Bd, nxd⟩ := g_143e (d := d) (p := p) (f := f) (l3 := some (.int (yI (pct D n)))) (M := 0) Ba hDE (hEn.trans hn) ha1 (by omega) a19 a29 p1 p2 (by omega) hfn (by rw [hEc]; omega) (by rw [hEc]; exact hrow) hkE
          rw [hEc] at w3
          rw [hEt] at Bd
          have hDd : yDok (ytkS D p (D.du f) (yI f)) := yDok_tkS hD (by omega)
          obtain ⟨T, hT⟩ : ∃ T, T = ytkS D p (D.du f) (yI f) := ⟨_, rfl⟩
          have hTn : T.n = D.n := by rw [hT, ytkS_n]
          have hTb : T.bp = D.bp := by rw [hT, ytkS_bp]
          have hTk : T.kd = D.kd := by rw [hT, ytkS_kd]
          have hTp : T.pd = D.pd := by rw [hT, ytkS_pd]
          have hTf : T.fr p = D.fr p + 1 := by rw [hT, ytkS_fr, yupd_same]
          have hTq : ∀ q, q ≠ p → T.fr q = D.fr q := fun q hq => by rw [hT, ytkS_fr, yupd_ne hq]
          have hTc : ∀ q, pct T q = pct D q := fun q => by unfold pct; rw [hTb]
          rw [← hT] at Bd hDd ⊢
          have lrd := Bd.1.lm1 (p := p) (by omega)
          have elm : (R.stk (pup R.tk p (R.du f))).lm p = R.lm p := rfl
          rw [elm] at lrd
          have hMd : ∀ q, p + 1 ≤ q → q < n → ∃ k : Nat, k ≤ M ∧ T.fr q = yI k := fun q hq hqn => by
            obtain ⟨k', hk', he⟩ := hM' q (by omega) hqn
            exact ⟨k', hk', by rw [hTq q (by omega)]; exact he⟩
          have hcT : ∀ q, q < n → T.bp q = false → c2 (pct T q) = yI q := fun q hq hqb => by rw [hTc]; exact hc q hq (by rw [← hTb]; exact hqb)
          have chain : ∀ Q, G d 143 55 [some (.ref s), some (.ref a1), some (.ref a2), some (.int (yI (pct D n))), some (.int (yI (pct D f))), some (.int (yI p)), l6] [] σ Q ↔ G d 143 105 [some (.ref s), some (.ref a1), some (.ref a2), some (.int (yI (pct D n))), some (.int (yI (pct D f))), some (.int (yI p)), some (.ref (R.lm p))] [] σd Q := fun Q => (w0 Q).trans ((w1 Q).trans ((w2 Q).trans (w3 Q)))
          have hnx1 := ynx_le (b := D.bp) (D.n - (f + 1)) (f + 1)
          have hnx2 : ynx D.bp (D.n - (f + 1)) (f + 1) < n → T.bp (ynx D.bp (D.n - (f + 1)) (f + 1)) = false := fun h => by rw [hTb]; exact ynx_no _ _ (by omega)
          have hnx3 : pct T (ynx D.bp (D.n - (f + 1)) (f + 1)) = pct D f + 1 := by rw [hTc, pct_nx, pct_n hbf]
          have z5 : yI (pct D f) + 1 = yI (pct D f + 1) := yI_add
          have kk := hD.kdk p hpn
          rw [← hTk] at kk hk1
          cases hst : ystut D p
          · simp only [Bool.false_eq_true, if_false]
            obtain ⟨τ, R', c1', i1, i2⟩ := ih (p + 1) (ynx D.bp (D.n - (f + 1)) (f + 1)) σd _ T (upd c1 p (yI f)) c2 c' s' (some (.ref (R.lm p))) hDd (hTn.trans hn) ⟨by omega, hnx2⟩ Bd hcT hMd (by omega) (by omega)
            refine ⟨τ, R', c1', fun Q => ?_, i2⟩
            have j1 := i1 Q
            rw [hnx3, hTc] at j1
            refine (chain Q).trans (Iff.trans ?_ j1)
            rcases kk with kk | kk | kk | kk
            · simp only [s_143_105, s_143_106, s_143_107, s_143_108, s_143_115, s_143_116, s_143_117, lrd, plamp, kk, show (0 : Int32) < 3 from by decide, if_true, z4, z5, hgf_s, hsel_0, hsel_1, hsel_2, hsel_3, hsel_4, hsel_5, hsel_6, hsel_7, hsel_8, hset_0, hset_1, hset_2, hset_3, hset_4, hset_5, hset_6, hset_7, hset_8, hpf_s, hcl_s, hai_s, hpi_0, hpi_1, hln_0, hln_1, List.length_cons, List.length_nil, xwr_1, xwr_2, xnew_1, xnew_n, xnew_s, xnew_z, Nat.reduceLT, ite_true, and_self, hp_8_0, hp_8_1, hn_8_1, hp_8_2, hn_8_2, hp_9_0, hp_9_1, hp_9_2, hp_9_3, hp_9_4, hp_9_5, hn_9_5, hp_9_6, hn_9_6, hp_9_7, hn_9_7, hp_10_0, hp_10_1, hp_10_2, hn_10_2, hp_10_3, hn_10_3, hp_11_0, hp_12_0, hn_12_0, hp_12_1, hp_12_2, hp_12_3, hp_12_4, hp_12_5, hn_12_5, hp_12_6, hn_12_6, hp_12_7, hp_12_8, hp_13_0, hn_13_0, hp_13_1, hp_13_2, hp_13_3, hp_14_0, hn_14_0, hp_14_1, hp_14_2, hp_14_3, xdef_8, xdef_9, xdef_10, xdef_11, xdef_12, xdef_13, xdef_14, Gk_v, Gk_n, xcat_nil, xcat_i, xcat_r, xcat_l, xcat_d, Nat.zero_le, Nat.reduceAdd, Nat.reduceLeDiff, true_and, and_true, ykl_i, ykl_r, ykl_n, ykl_l]
            · exact absurd kk hk1
            · simp only [s_143_105, s_143_106, s_143_107, s_143_108, s_143_115, s_143_116, s_143_117, lrd, plamp, kk, show (2 : Int32) < 3 from by decide, if_true, z4, z5, hgf_s, hsel_0, hsel_1, hsel_2, hsel_3, hsel_4, hsel_5, hsel_6, hsel_7, hsel_8, hset_0, hset_1, hset_2, hset_3, hset_4, hset_5, hset_6, hset_7, hset_8, hpf_s, hcl_s, hai_s, hpi_0, hpi_1, hln_0, hln_1, List.length_cons, List.length_nil, xwr_1, xwr_2, xnew_1, xnew_n, xnew_s, xnew_z, Nat.reduceLT, ite_true, and_self, hp_8_0, hp_8_1, hn_8_1, hp_8_2, hn_8_2, hp_9_0, hp_9_1, hp_9_2, hp_9_3, hp_9_4, hp_9_5, hn_9_5, hp_9_6, hn_9_6, hp_9_7, hn_9_7, hp_10_0, hp_10_1, hp_10_2, hn_10_2, hp_10_3, hn_10_3, hp_11_0, hp_12_0, hn_12_0, hp_12_1, hp_12_2, hp_12_3, hp_12_4, hp_12_5, hn_12_5, hp_12_6, hn_12_6, hp_12_7, hp_12_8, hp_13_0, hn_13_0, hp_13_1, hp_13_2, hp_13_3, hp_14_0, hn_14_0, hp_14_1, hp_14_2, hp_14_3, xdef_8, xdef_9, xdef_10, xdef_11, xdef_12, xdef_13, xdef_14, Gk_v, Gk_n, xcat_nil, xcat_i, xcat_r, xcat_l, xcat_d, Nat.zero_le, Nat.reduceAdd, Nat.reduceLeDiff, true_and, and_true, ykl_i, ykl_r, ykl_n, ykl_l]
            · obtain ⟨q, hq, hpd⟩ := hD.pdp p hpn (by rw [← hTk]; exact kk)
              have hs := pstut (by rw [← hTk]; exact kk) hpd hq hfr (by omega)
              rw [hst] at hs
              have hs' : ¬ (k + 1) % q = 0 := of_decide_eq_false hs.symm
              have hml := Nat.mod_lt (k + 1) (show q > 0 by omega)
              have n0 : ¬ yI q = 0 := fun h => by
                have := (yI_inj (m := 0) (by omega) (by decide)).mp h
                omega
              have h1 : T.fr p = yI (k + 1) := by rw [hTf, hfr]; exact yI_add
              have h2 := prem (k := k + 1) hq (by omega)
              have h3 : ¬ yI ((k + 1) % q) ≤ 0 := fun h => by
                have := (yI_le (m := 0) (by omega) (by decide)).mp h
                omega
              have hpd' : T.pd p = yI q := by rw [hTp]; exact hpd
              simp only [s_143_105, s_143_106, s_143_107, s_143_108, s_143_109, s_143_110, s_143_111, s_143_112, s_143_113 n0, s_143_114, s_143_115, s_143_116, s_143_117, lrd, plamp, kk, hpd', h1, h2, h3, show ¬ (3 : Int32) < 3 from by decide, if_false, z4, z5, hgf_s, hsel_0, hsel_1, hsel_2, hsel_3, hsel_4, hsel_5, hsel_6, hsel_7, hsel_8, hset_0, hset_1, hset_2, hset_3, hset_4, hset_5, hset_6, hset_7, hset_8, hpf_s, hcl_s, hai_s, hpi_0, hpi_1, hln_0, hln_1, List.length_cons, List.length_nil, xwr_1, xwr_2, xnew_1, xnew_n, xnew_s, xnew_z, Nat.reduceLT, ite_true, and_self, hp_8_0, hp_8_1, hn_8_1, hp_8_2, hn_8_2, hp_9_0, hp_9_1, hp_9_2, hp_9_3, hp_9_4, hp_9_5, hn_9_5, hp_9_6, hn_9_6, hp_9_7, hn_9_7, hp_10_0, hp_10_1, hp_10_2, hn_10_2, hp_10_3, hn_10_3, hp_11_0, hp_12_0, hn_12_0, hp_12_1, hp_12_2, hp_12_3, hp_12_4, hp_12_5, hn_12_5, hp_12_6, hn_12_6, hp_12_7, hp_12_8, hp_13_0, hn_13_0, hp_13_1, hp_13_2, hp_13_3, hp_14_0, hn_14_0, hp_14_1, hp_14_2, hp_14_3, xdef_8, xdef_9, xdef_10, xdef_11, xdef_12, xdef_13, xdef_14, Gk_v, Gk_n, xcat_nil, xcat_i, xcat_r, xcat_l, xcat_d, Nat.zero_le, Nat.reduceAdd, Nat.reduceLeDiff, true_and, and_true, ykl_i, ykl_r, ykl_n, ykl_l]
          · simp only [if_true]
            obtain ⟨τ, R', c1', i1, i2⟩ := ih (p + 1) f σd _ T (upd c1 p (yI f)) c2 c' s' (some (.ref (R.lm p))) hDd (hTn.trans hn) ⟨hf.1, fun h => by rw [hTb]; exact hf.2 h⟩ Bd hcT hMd (by omega) (by omega)
            refine ⟨τ, R', c1', fun Q => ?_, i2⟩
            have j1 := i1 Q
            rw [hTc, hTc] at j1
            refine (chain Q).trans (Iff.trans ?_ j1)
            have kk : D.kd p = 3 := by
              unfold ystut at hst
              rw [Bool.and_eq_true, decide_eq_true_iff] at hst
              exact hst.1
            obtain ⟨q, hq, hpd⟩ := hD.pdp p hpn kk
            have hs := pstut kk hpd hq hfr (by omega)
            rw [hst] at hs
            have hs' : (k + 1) % q = 0 := of_decide_eq_true hs.symm
            have n0 : ¬ yI q = 0 := fun h => by
              have := (yI_inj (m := 0) (by omega) (by decide)).mp h
              omega
            have h1 : T.fr p = yI (k + 1) := by rw [hTf, hfr]; exact yI_add
            have h2 := prem (k := k + 1) hq (by omega)
            rw [hs'] at h2
            have h3 : yI 0 ≤ 0 := Int32.le_refl _
            have hpd' : T.pd p = yI q := by rw [hTp]; exact hpd
            have kk' : T.kd p = 3 := by rw [hTk]; exact kk
            simp only [s_143_105, s_143_106, s_143_107, s_143_108, s_143_109, s_143_110, s_143_111, s_143_112, s_143_113 n0, s_143_114, s_143_116, s_143_117, lrd, plamp, kk', hpd', h1, h2, h3, show ¬ (3 : Int32) < 3 from by decide, if_false, if_true, z4, hgf_s, hsel_0, hsel_1, hsel_2, hsel_3, hsel_4, hsel_5, hsel_6, hsel_7, hsel_8, hset_0, hset_1, hset_2, hset_3, hset_4, hset_5, hset_6, hset_7, hset_8, hpf_s, hcl_s, hai_s, hpi_0, hpi_1, hln_0, hln_1, List.length_cons, List.length_nil, xwr_1, xwr_2, xnew_1, xnew_n, xnew_s, xnew_z, Nat.reduceLT, ite_true, and_self, hp_8_0, hp_8_1, hn_8_1, hp_8_2, hn_8_2, hp_9_0, hp_9_1, hp_9_2, hp_9_3, hp_9_4, hp_9_5, hn_9_5, hp_9_6, hn_9_6, hp_9_7, hn_9_7, hp_10_0, hp_10_1, hp_10_2, hn_10_2, hp_10_3, hn_10_3, hp_11_0, hp_12_0, hn_12_0, hp_12_1, hp_12_2, hp_12_3, hp_12_4, hp_12_5, hn_12_5, hp_12_6, hn_12_6, hp_12_7, hp_12_8, hp_13_0, hn_13_0, hp_13_1, hp_13_2, hp_13_3, hp_14_0, hn_14_0, hp_14_1, hp_14_2, hp_14_3, xdef_8, xdef_9, xdef_10, xdef_11, xdef_12, xdef_13, xdef_14, Gk_v, Gk_n, xcat_nil, xcat_i, xcat_r, xcat_l, xcat_d, Nat.zero_le, Nat.reduceAdd, Nat.reduceLeDiff, true_and, and_true, ykl_i, ykl_r, ykl_n, ykl_l]
      · have hfe : f = n := by omega
        subst hfe
        have hgo : ygo (m + 1) p f D = D := ygo_end _ _ _ (by omega)
        have hgo' : ygo m (p + 1) f D = D := ygo_end _ _ _ (by omega)
        obtain ⟨τ, R', c1', i1, i2⟩ := ih (p + 1) f σ R D c1 c2 c' s' (some (.ref (R.lm p))) hD hn hf B hc (fun q hq hqn => hM' q (by omega) hqn) hr (by omega)
        rw [hgo'] at i2
        rw [hgo]
        refine ⟨τ, R', c1', fun Q => ?_, i2⟩
        refine (w0 Q).trans (Iff.trans ?_ (i1 Q))
        simp only [s_143_65, s_143_66, s_143_67, s_143_68, s_143_69, s_143_70, s_143_71, s_143_116, s_143_117, lr1, plamp, hb, yb, ne_eq, Bool.false_eq_true, not_true_eq_false, if_false, z4, hgf_s, hsel_0, hsel_1, hsel_2, hsel_3, hsel_4, hsel_5, hsel_6, hsel_7, hsel_8, hset_0, hset_1, hset_2, hset_3, hset_4, hset_5, hset_6, hset_7, hset_8, hpf_s, hcl_s, hai_s, hpi_0, hpi_1, hln_0, hln_1, List.length_cons, List.length_nil, xwr_1, xwr_2, xnew_1, xnew_n, xnew_s, xnew_z, Nat.reduceLT, ite_true, and_self, hp_8_0, hp_8_1, hn_8_1, hp_8_2, hn_8_2, hp_9_0, hp_9_1, hp_9_2, hp_9_3, hp_9_4, hp_9_5, hn_9_5, hp_9_6, hn_9_6, hp_9_7, hn_9_7, hp_10_0, hp_10_1, hp_10_2, hn_10_2, hp_10_3, hn_10_3, hp_11_0, hp_12_0, hn_12_0, hp_12_1, hp_12_2, hp_12_3, hp_12_4, hp_12_5, hn_12_5, hp_12_6, hn_12_6, hp_12_7, hp_12_8, hp_13_0, hn_13_0, hp_13_1, hp_13_2, hp_13_3, hp_14_0, hn_14_0, hp_14_1, hp_14_2, hp_14_3, xdef_8, xdef_9, xdef_10, xdef_11, xdef_12, xdef_13, xdef_14, Gk_v, Gk_n, xcat_nil, xcat_i, xcat_r, xcat_l, xcat_d, Nat.zero_le, Nat.reduceAdd, Nat.reduceLeDiff, true_and, and_true, ykl_i, ykl_r, ykl_n, ykl_l]
    · have hgo : ygo (m + 1) p f D = ygo m (p + 1) f D := by
        show (if D.bp p = true then _ else _) = _
        rw [if_pos hb]
      obtain ⟨τ, R', c1', i1, i2⟩ := ih (p + 1) f σ R D c1 c2 c' s' (some (.ref (R.lm p))) hD hn hf B hc (fun q hq hqn => hM' q (by omega) hqn) hr (by omega)
      rw [hgo]
      refine ⟨τ, R', c1', fun Q => ?_, i2⟩
      refine (w0 Q).trans (Iff.trans ?_ (i1 Q))
      have hz0 : ¬ (1 : Int32) = 0 := by decide
      simp only [s_143_65, s_143_66, s_143_67, s_143_116, s_143_117, lr1, plamp, hb, yb, ne_eq, hz0, not_false_eq_true, if_true, z4, hgf_s, hsel_0, hsel_1, hsel_2, hsel_3, hsel_4, hsel_5, hsel_6, hsel_7, hsel_8, hset_0, hset_1, hset_2, hset_3, hset_4, hset_5, hset_6, hset_7, hset_8, hpf_s, hcl_s, hai_s, hpi_0, hpi_1, hln_0, hln_1, List.length_cons, List.length_nil, xwr_1, xwr_2, xnew_1, xnew_n, xnew_s, xnew_z, Nat.reduceLT, ite_true, and_self, hp_8_0, hp_8_1, hn_8_1, hp_8_2, hn_8_2, hp_9_0, hp_9_1, hp_9_2, hp_9_3, hp_9_4, hp_9_5, hn_9_5, hp_9_6, hn_9_6, hp_9_7, hn_9_7, hp_10_0, hp_10_1, hp_10_2, hn_10_2, hp_10_3, hn_10_3, hp_11_0, hp_12_0, hn_12_0, hp_12_1, hp_12_2, hp_12_3, hp_12_4, hp_12_5, hn_12_5, hp_12_6, hn_12_6, hp_12_7, hp_12_8, hp_13_0, hn_13_0, hp_13_1, hp_13_2, hp_13_3, hp_14_0, hn_14_0, hp_14_1, hp_14_2, hp_14_3, xdef_8, xdef_9, xdef_10, xdef_11, xdef_12, xdef_13, xdef_14, Gk_v, Gk_n, xcat_nil, xcat_i, xcat_r, xcat_l, xcat_d, Nat.zero_le, Nat.reduceAdd, Nat.reduceLeDiff, true_and, and_true, ykl_i, ykl_r, ykl_n, ykl_l]
end
