/-! ===== the law's own strips: filling, shifting ===== -/
/-- a strip and what was left alone since σ0 -/
def pU (lo hi s : Nat) (cv : Value) (dn en : Int32) (σ0 : xS) (c' s' : Nat) (σ : xS) (R : pR) (D : yD) : Prop :=
  pS σ s R D cv dn en ∧ (pZ σ ∧ (pJ lo hi s R D ∧ pF (pP lo hi σ0) c' s' σ0 σ))
section
variable {lo hi s c' s' p : Nat} {cv : Value} {dn en : Int32} {σ0 σ : xS} {R R' : pR} {D D' : yD} {x : xE}
theorem pU.lamp (B : pU lo hi s cv dn en σ0 c' s' σ R D) (hp : p < D.n) (hR : plkR R R') (hD : plkD D D') (hq : ∀ q, q ≠ p → plkp R R' D D' q) (hc : (pC σ (R'.tk p) (D'.tk p) ∧ pcol (D'.tk p)) ∧ ((pC σ (R'.du p) (D'.du p) ∧ pcol (D'.du p)) ∧ (pC σ (R'.fm p) (D'.fm p) ∧ pcol (D'.fm p)))) (hx : x = plamp (D'.kd p) (D'.pd p) (yb (D'.bp p)) (D'.fr p) (D'.og p) (R'.tk p) (R'.du p) (R'.fm p)) : pU lo hi s cv dn en σ0 c' s' (xwr σ (R.lm p) x) R' D' := by
  obtain ⟨S, Z, J, F⟩ := B
  have hl := (S.2.2.1 p hp).2
  have hlmi := J.2.2.2.1.1 p hp
  subst hx
  exact ⟨S.lamp J hp hR hD hq hc, pZ_wr Z hl, J.to hR hD.1 hD.2.1, pF_own F Z hl pco_lamp hlmi⟩
/-- a lamp's frame -/
theorem pU.fm (B : pU lo hi s cv dn en σ0 c' s' σ R D) (hp : p < D.n) {a : Nat} {y : Int32} (h : pC σ a y) (hy : pcol y) : pU lo hi s cv dn en σ0 c' s' (xwr σ (R.lm p) (plamp (D.kd p) (D.pd p) (yb (D.bp p)) (D.fr p) (D.og p) (R.tk p) (R.du p) a)) (R.sfm (pup R.fm p a)) (D.sfm (upd D.fm p y)) := by
  refine B.lamp hp ⟨rfl, rfl, rfl, rfl⟩ ⟨rfl, rfl, rfl, rfl, rfl, rfl, rfl, rfl⟩ (fun q hq => ⟨rfl, rfl, rfl, rfl, rfl, rfl, rfl, yupd_ne hq, rfl, rfl, pup_ne hq⟩) ⟨B.1.tk hp, B.1.du hp, ?_, ?_⟩ ?_
  · show pC σ (pup R.fm p a p) (upd D.fm p y p)
    rw [pup_same, yupd_same]
    exact h
  · show pcol (upd D.fm p y p)
    rw [yupd_same]
    exact hy
  · show _ = plamp _ _ _ _ _ _ _ (pup R.fm p _ p)
    rw [pup_same]
    rfl
theorem pC_lamp {a b : Nat} {y : Int32} {k pd bp fr og : Int32} {t u f : Nat} (h : pC σ b y) (g : σ.1 a = some (plamp k pd bp fr og t u f)) : pC (xwr σ a x) b y := by
  obtain ⟨h0, c, h1, h2⟩ := h
  refine ⟨h0, c, ?_, h2⟩
  rw [xwr_1, if_neg (fun q => by rw [q, g] at h1; simp [plamp] at h1)]
  exact h1
variable {d : Nat}
theorem l_145 {to a n : Nat} {y : Int32} {l1 : Option Value} (hy : pcol y) (hn : D.n = n) (hto : to < n) (h40 : n ≤ 40) : ∀ m p acc (σ : xS) (R : pR) (D : yD), D.n = n → pU lo hi s cv dn en σ0 c' s' σ R D → pC σ a y → p + m = to + 1 → ∃ τ R', Ga (d + 1) 145 4 [some (.ref s), l1, some (.int (yI to)), some (.ref a), some (.int acc), some (.int (yI p))] [] σ (.inl (some (.int (ypt y m p acc D).1))) τ ∧ pU lo hi s cv dn en σ0 c' s' τ R' (ypt y m p acc D).2 := by
  intro m
  induction m with
  | zero =>
    intro p acc σ R D hn B hC hp
    have z1 : yI p > yI to := (yI_lt (by omega) (by omega)).mpr (by omega)
    refine ⟨σ, R, fun Q => ?_, B⟩
    rw [s_145_4]
    simp only [s_145_5, s_145_6, s_145_24, s_145_25, z1, if_true, ypt, Gk_v, Gk_n, xcat_nil, xcat_i, xcat_r, xcat_l, xcat_d, Nat.zero_le, Nat.reduceAdd, Nat.reduceLeDiff, true_and, and_true, ykl_i, ykl_r, ykl_n, ykl_l]
  | succ m ih =>
    intro p acc σ R D hn B hC hp
    have hpn : p < D.n := by omega
    have z1 : ¬ yI p > yI to := fun h => absurd ((yI_lt (by omega) (by omega)).mp h) (by omega)
    have z4 : yI p + 1 = yI (p + 1) := yI_add
    have c3 : yix (yI p) D.n := yix_I (by omega) (by omega)
    have c4 : (yI p).toNatClampNeg = p := yI_clamp (by omega)
    have S := B.1
    have o0 := S.ob
    obtain ⟨g0, u0, v0⟩ := S.lrow
    have hlr := S.lr0
    have lo1 := S.lm0 hpn
    have lr1 := S.lm1 hpn
    have lc1 := (S.2.2.1 p hpn).2
    have k1 := m_203 (d := d) (S.fm hpn).1 hC (S.fm hpn).2 hy
    have B1 := B.fm hpn hC hy
    have hC1 : pC (xwr σ (R.lm p) (plamp (D.kd p) (D.pd p) (yb (D.bp p)) (D.fr p) (D.og p) (R.tk p) (R.du p) a)) a y := pC_lamp hC lc1
    obtain ⟨σ1, e1⟩ : ∃ σ1, σ1 = xwr σ (R.lm p) (plamp (D.kd p) (D.pd p) (yb (D.bp p)) (D.fr p) (D.og p) (R.tk p) (R.du p) a) := ⟨_, rfl⟩
    rw [← e1] at B1 hC1
    obtain ⟨τ, R', i1, i2⟩ := ih (p + 1) (if D.fm p = y then acc else acc + 1) σ1 _ _ (by exact hn) B1 hC1 (by omega)
    refine ⟨τ, R', fun Q => ?_, i2⟩
    have j := i1 Q
    show _ ↔ Q (.inl (some (.int (ypt y m (p + 1) (if D.fm p = y then acc else acc + 1) (D.sfm (upd D.fm p y))).1))) τ
    refine Iff.trans ?_ j
    rw [s_145_4]
    by_cases hs : D.fm p = y
    · simp only [s_145_5, s_145_6, s_145_7, s_145_8, s_145_9, s_145_10, s_145_11, s_145_12, s_145_13, s_145_14, s_145_15, s_145_16, s_145_17, s_145_18, s_145_19, s_145_20, s_145_21, s_145_22, s_145_23, z1, z4, c3, c4, o0, u0, v0 p hpn, lo1, lr1, lc1, haa_t hlr (show 4 ≤ 6 ∧ 6 ≤ 8 by decide), hop_s, k1 _, hs, decide_true, plamp, ifb, ifbn, if_true, if_false, e1, hgf_s, hsel_0, hsel_1, hsel_2, hsel_3, hsel_4, hsel_5, hsel_6, hsel_7, hsel_8, hset_0, hset_1, hset_2, hset_3, hset_4, hset_5, hset_6, hset_7, hset_8, hpf_s, hcl_s, hai_s, hpi_0, hpi_1, hln_0, hln_1, List.length_cons, List.length_nil, xwr_1, xwr_2, xnew_1, xnew_n, xnew_s, xnew_z, Nat.reduceLT, ite_true, and_self, hp_8_0, hp_8_1, hn_8_1, hp_8_2, hn_8_2, hp_9_0, hp_9_1, hp_9_2, hp_9_3, hp_9_4, hp_9_5, hn_9_5, hp_9_6, hn_9_6, hp_9_7, hn_9_7, hp_10_0, hp_10_1, hp_10_2, hn_10_2, hp_10_3, hn_10_3, hp_11_0, hp_12_0, hn_12_0, hp_12_1, hp_12_2, hp_12_3, hp_12_4, hp_12_5, hn_12_5, hp_12_6, hn_12_6, hp_12_7, hp_12_8, hp_13_0, hn_13_0, hp_13_1, hp_13_2, hp_13_3, hp_14_0, hn_14_0, hp_14_1, hp_14_2, hp_14_3, xdef_8, xdef_9, xdef_10, xdef_11, xdef_12, xdef_13, xdef_14, Gk_v, Gk_n, xcat_nil, xcat_i, xcat_r, xcat_l, xcat_d, Nat.zero_le, Nat.reduceAdd, Nat.reduceLeDiff, true_and, and_true, ykl_i, ykl_r, ykl_n, ykl_l]
    · simp only [s_145_5, s_145_6, s_145_7, s_145_8, s_145_9, s_145_10, s_145_11, s_145_12, s_145_13, s_145_14, s_145_15, s_145_16, s_145_17, s_145_18, s_145_19, s_145_20, s_145_21, s_145_22, s_145_23, z1, z4, c3, c4, o0, u0, v0 p hpn, lo1, lr1, lc1, haa_t hlr (show 4 ≤ 6 ∧ 6 ≤ 8 by decide), hop_s, k1 _, hs, decide_false, Bool.false_eq_true, plamp, ifb, ifbn, if_true, if_false, e1, hgf_s, hsel_0, hsel_1, hsel_2, hsel_3, hsel_4, hsel_5, hsel_6, hsel_7, hsel_8, hset_0, hset_1, hset_2, hset_3, hset_4, hset_5, hset_6, hset_7, hset_8, hpf_s, hcl_s, hai_s, hpi_0, hpi_1, hln_0, hln_1, List.length_cons, List.length_nil, xwr_1, xwr_2, xnew_1, xnew_n, xnew_s, xnew_z, Nat.reduceLT, ite_true, and_self, hp_8_0, hp_8_1, hn_8_1, hp_8_2, hn_8_2, hp_9_0, hp_9_1, hp_9_2, hp_9_3, hp_9_4, hp_9_5, hn_9_5, hp_9_6, hn_9_6, hp_9_7, hn_9_7, hp_10_0, hp_10_1, hp_10_2, hn_10_2, hp_10_3, hn_10_3, hp_11_0, hp_12_0, hn_12_0, hp_12_1, hp_12_2, hp_12_3, hp_12_4, hp_12_5, hn_12_5, hp_12_6, hn_12_6, hp_12_7, hp_12_8, hp_13_0, hn_13_0, hp_13_1, hp_13_2, hp_13_3, hp_14_0, hn_14_0, hp_14_1, hp_14_2, hp_14_3, xdef_8, xdef_9, xdef_10, xdef_11, xdef_12, xdef_13, xdef_14, Gk_v, Gk_n, xcat_nil, xcat_i, xcat_r, xcat_l, xcat_d, Nat.zero_le, Nat.reduceAdd, Nat.reduceLeDiff, true_and, and_true, ykl_i, ykl_r, ykl_n, ykl_l]
/-- from..to get a color -/
theorem m_145 (B : pU lo hi s cv dn en σ0 c' s' σ R D) (hD : yDok D) {fm to a : Nat} {y : Int32} (hy : pcol y) (hC : pC σ a y) (hto : to < D.n) (hf : fm ≤ to) : ∃ τ R', Ra (d + 1) 145 [.ref s, .int (yI fm), .int (yI to), .ref a] σ (.inl (some (.int (ypt y (to + 1 - fm) fm 0 D).1))) τ ∧ pU lo hi s cv dn en σ0 c' s' τ R' (ypt y (to + 1 - fm) fm 0 D).2 := by
  obtain ⟨τ, R', i1, i2⟩ := l_145 (d := d) (l1 := some (.int (yI fm))) hy rfl hto hD.n40 (to + 1 - fm) fm 0 σ R D rfl B hC (by omega)
  refine ⟨τ, R', fun Q => ?_, i2⟩
  show G (d + 1) 145 0 [some (.ref s), some (.int (yI fm)), some (.int (yI to)), some (.ref a), none, none] [] σ Q ↔ _
  refine Iff.trans ?_ (i1 Q)
  simp only [s_145_0, s_145_1, s_145_2, s_145_3, Gk_v, Gk_n, xcat_nil, xcat_i, xcat_r, xcat_l, xcat_d, Nat.zero_le, Nat.reduceAdd, Nat.reduceLeDiff, true_and, and_true, ykl_i, ykl_r, ykl_n, ykl_l]
/-- a row of frames, shifted -/
theorem l_146a {a1 b n : Nat} (hD : yDok D) (hn : D.n = n) (hb : b < 10000) (S : pS σ s R D cv dn en) {ls : Option Value} (h1 : a1 < 1000000) (hne : ∀ q, q < n → R.fm q ≠ a1 ∧ R.lm q ≠ a1) (hs1 : s ≠ a1) (hlr1 : R.lr ≠ a1) : ∀ m p (g : Nat → Option Nat) (υ : xS), (∀ c, c ≠ a1 → υ.1 c = σ.1 c) → υ.2 = σ.2 → υ.1 a1 = some (prow 5 n g) → (∀ q, q < p → g ((q + b) % n) = some (R.fm q)) → p + m = n → ∃ g', Gg d 146 7 [some (.ref s), some (.int (yI b)), some (.ref a1), some (.int (yI p))] [] υ 26 [some (.ref s), some (.int (yI b)), some (.ref a1), some (.int (yI n))] [] (if m = 0 then υ else xwr υ a1 (prow 5 n g')) ∧ ((m = 0 → g' = g) ∧ ∀ q, q < n → g' ((q + b) % n) = some (R.fm q)) := by
  have hn40 := hD.n40
  have hn1 := hD.n1
  intro m
  induction m with
  | zero =>
    intro p g υ hk hz ha hg hp
    have e : p = n := by omega
    subst e
    have hr : xRd υ a1 = some (prow 5 p g) := by rw [yrd_lt h1, ha]
    refine ⟨g, fun Q => ?_, fun _ => rfl, hg⟩
    rw [if_pos rfl, s_146_7]
    simp only [s_146_8, s_146_9, s_146_10, hr, hln_r h1 (show 4 ≤ 5 ∧ 5 ≤ 8 by decide), Int32.le_refl, if_true, hgf_s, hsel_0, hsel_1, hsel_2, hsel_3, hsel_4, hsel_5, hsel_6, hsel_7, hsel_8, hset_0, hset_1, hset_2, hset_3, hset_4, hset_5, hset_6, hset_7, hset_8, hpf_s, hcl_s, hai_s, hpi_0, hpi_1, hln_0, hln_1, List.length_cons, List.length_nil, xwr_1, xwr_2, xnew_1, xnew_n, xnew_s, xnew_z, Nat.reduceLT, ite_true, and_self, hp_8_0, hp_8_1, hn_8_1, hp_8_2, hn_8_2, hp_9_0, hp_9_1, hp_9_2, hp_9_3, hp_9_4, hp_9_5, hn_9_5, hp_9_6, hn_9_6, hp_9_7, hn_9_7, hp_10_0, hp_10_1, hp_10_2, hn_10_2, hp_10_3, hn_10_3, hp_11_0, hp_12_0, hn_12_0, hp_12_1, hp_12_2, hp_12_3, hp_12_4, hp_12_5, hn_12_5, hp_12_6, hn_12_6, hp_12_7, hp_12_8, hp_13_0, hn_13_0, hp_13_1, hp_13_2, hp_13_3, hp_14_0, hn_14_0, hp_14_1, hp_14_2, hp_14_3, xdef_8, xdef_9, xdef_10, xdef_11, xdef_12, xdef_13, xdef_14, Gk_v, Gk_n, xcat_nil, xcat_i, xcat_r, xcat_l, xcat_d, Nat.zero_le, Nat.reduceAdd, Nat.reduceLeDiff, true_and, and_true, ykl_i, ykl_r, ykl_n, ykl_l]
  | succ m ih =>
    intro p g υ hk hz ha hg hp
    have hpn : p < D.n := by omega
    have z1 : ¬ yI n ≤ yI p := fun h => absurd ((yI_le (by omega) (by omega)).mp h) (by omega)
    have z4 : yI p + 1 = yI (p + 1) := yI_add
    have z5 : yI p + yI b = yI (p + b) := yI_add
    have z6 : yI (p + b) - yI (p + b) / yI n * yI n = yI ((p + b) % n) := yI_mod (by omega) (by omega) (by omega)
    have hml := Nat.mod_lt (p + b) (show n > 0 by omega)
    have c3 : yix (yI p) D.n := yix_I (by omega) (by omega)
    have c4 : (yI p).toNatClampNeg = p := yI_clamp (by omega)
    have c5 : yix (yI ((p + b) % n)) n := yix_I (by omega) (by omega)
    have c6 : (yI ((p + b) % n)).toNatClampNeg = (p + b) % n := yI_clamp (by omega)
    have n0 : ¬ yI n = 0 := fun h => by
      have := (yI_inj (m := 0) (by omega) (by decide)).mp h
      omega
    have hr : xRd υ a1 = some (prow 5 n g) := by rw [yrd_lt h1, ha]
    have o0 : xRd υ s = _ := (show xRd υ s = xRd σ s by rw [yrd_lt S.1.1, yrd_lt S.1.1, hk s hs1]).trans S.ob
    obtain ⟨g0, u0', v0⟩ := S.lrow
    have hlr := S.lr0
    have u0 : xRd υ R.lr = some (prow 6 D.n g0) := (show xRd υ R.lr = xRd σ R.lr by rw [yrd_lt hlr, yrd_lt hlr, hk _ hlr1]).trans u0'
    have lo1 := S.lm0 hpn
    have lr1 : xRd υ (R.lm p) = _ := (show xRd υ (R.lm p) = xRd σ (R.lm p) by rw [yrd_lt lo1, yrd_lt lo1, hk _ (hne p (by omega)).2]).trans (S.lm1 hpn)
    obtain ⟨⟨f0, cf, f1, -⟩, -⟩ := S.fm hpn
    have f1' : υ.1 (R.fm p) = some (.inl (0, (3, .inl cf))) := by rw [hk _ (hne p (by omega)).1, f1]
    obtain ⟨g', i1, i2, i3⟩ := ih (p + 1) (va_up g ((p + b) % n) (some (R.fm p))) (xwr υ a1 (prow 5 n (va_up g ((p + b) % n) (some (R.fm p))))) (fun c hc => by rw [xwr_1, if_neg hc]; exact hk c hc) hz (by rw [xwr_1, if_pos rfl]) (fun q hq => by
      show (if (q + b) % n = (p + b) % n then some (R.fm p) else g ((q + b) % n)) = _
      by_cases hqp : q = p
      · subst hqp; rw [if_pos rfl]
      · rw [if_neg (ymod_ne (by omega) (by omega))]
        exact hg q (by omega)) (by omega)
    refine ⟨g', fun Q => ?_, fun h => by omega, i3⟩
    have j := i1 Q
    have ef : (if m = 0 then xwr υ a1 (prow 5 n (va_up g ((p + b) % n) (some (R.fm p)))) else xwr (xwr υ a1 (prow 5 n (va_up g ((p + b) % n) (some (R.fm p))))) a1 (prow 5 n g')) = xwr υ a1 (prow 5 n g') := by
      split
      · rename_i hm
        rw [i2 hm]
      · rw [pwr_wr]
    rw [ef] at j
    rw [if_neg (by omega)]
    refine Iff.trans ?_ j
    rw [s_146_7]
    simp only [s_146_8, s_146_9, s_146_10, s_146_11, s_146_12, s_146_13, s_146_14, s_146_15, s_146_16, s_146_17 n0, s_146_18, s_146_19, s_146_20, s_146_21, s_146_22, s_146_23, s_146_24, s_146_25, hr, ha, h1, hln_r h1 (show 4 ≤ 5 ∧ 5 ≤ 8 by decide), z1, z4, z5, z6, c3, c4, c5, c6, o0, u0, v0 p hpn, lo1, lr1, f0, f1', haa_t hlr (show 4 ≤ 6 ∧ 6 ≤ 8 by decide), hop_s, hpa_i, plamp, if_false, hgf_s, hsel_0, hsel_1, hsel_2, hsel_3, hsel_4, hsel_5, hsel_6, hsel_7, hsel_8, hset_0, hset_1, hset_2, hset_3, hset_4, hset_5, hset_6, hset_7, hset_8, hpf_s, hcl_s, hai_s, hpi_0, hpi_1, hln_0, hln_1, List.length_cons, List.length_nil, xwr_1, xwr_2, xnew_1, xnew_n, xnew_s, xnew_z, Nat.reduceLT, ite_true, and_self, hp_8_0, hp_8_1, hn_8_1, hp_8_2, hn_8_2, hp_9_0, hp_9_1, hp_9_2, hp_9_3, hp_9_4, hp_9_5, hn_9_5, hp_9_6, hn_9_6, hp_9_7, hn_9_7, hp_10_0, hp_10_1, hp_10_2, hn_10_2, hp_10_3, hn_10_3, hp_11_0, hp_12_0, hn_12_0, hp_12_1, hp_12_2, hp_12_3, hp_12_4, hp_12_5, hn_12_5, hp_12_6, hn_12_6, hp_12_7, hp_12_8, hp_13_0, hn_13_0, hp_13_1, hp_13_2, hp_13_3, hp_14_0, hn_14_0, hp_14_1, hp_14_2, hp_14_3, xdef_8, xdef_9, xdef_10, xdef_11, xdef_12, xdef_13, xdef_14, Gk_v, Gk_n, xcat_nil, xcat_i, xcat_r, xcat_l, xcat_d, Nat.zero_le, Nat.reduceAdd, Nat.reduceLeDiff, true_and, and_true, ykl_i, ykl_r, ykl_n, ykl_l]
/-- frames of the first pixels shifted -/
def prf (f : Nat → Int32) (n b p : Nat) : Nat → Int32 := fun q => if q < p then ytF f n b q else f q
theorem prf_0 {f : Nat → Int32} {n b : Nat} : prf f n b 0 = f := by
  funext q
  unfold prf
  rw [if_neg (by omega)]
theorem prf_n {f : Nat → Int32} {n b : Nat} : prf f n b n = ytF f n b := by
  funext q
  unfold prf ytF
  split <;> rfl
theorem prf_s {f : Nat → Int32} {n b p : Nat} (hp : p < n) : upd (prf f n b p) p (f ((p + (n - b % n)) % n)) = prf f n b (p + 1) := by
  funext q
  unfold prf upd
  by_cases h : q = p
  · subst h
    rw [if_pos rfl, if_pos (by omega)]
    unfold ytF
    rw [if_pos hp]
  · rw [if_neg h]
    show (if q < p then ytF f n b q else f q) = _
    by_cases h2 : q < p
    · rw [if_pos h2, if_pos (by omega)]
    · rw [if_neg h2, if_neg (by omega)]
theorem l_146b {a1 b n : Nat} {D0 : yD} {R0 : pR} (h40 : n ≤ 40) (hn1 : 1 ≤ n) (h1 : a1 < 1000000) (hne : ¬ pin lo hi a1) {g : Nat → Option Nat} (hg : ∀ q, q < n → g q = some (R0.fm ((q + (n - b % n)) % n))) {ls : Option Value} : ∀ m p (σ : xS) (R : pR), D0.n = n → pU lo hi s cv dn en σ0 c' s' σ R (D0.sfm (prf D0.fm n b p)) → (∀ q, q < n → pC σ (R0.fm q) (D0.fm q) ∧ pcol (D0.fm q)) → σ.1 a1 = some (prow 5 n g) → p + m = n → ∃ τ R', Ga d 146 28 [some (.ref s), some (.int (yI b)), some (.ref a1), some (.int (yI p))] [] σ (.inl none) τ ∧ pU lo hi s cv dn en σ0 c' s' τ R' (D0.sfm (prf D0.fm n b n)) := by
  intro m
  induction m with
  | zero =>
    intro p σ R hn B hC ha hp
    have e : p = n := by omega
    subst e
    have hr : xRd σ a1 = some (prow 5 p g) := by rw [yrd_lt h1, ha]
    refine ⟨σ, R, fun Q => ?_, B⟩
    rw [s_146_28]
    simp only [s_146_29, s_146_30, s_146_31, s_146_42, hr, hln_r h1 (show 4 ≤ 5 ∧ 5 ≤ 8 by decide), Int32.le_refl, if_true, hgf_s, hsel_0, hsel_1, hsel_2, hsel_3, hsel_4, hsel_5, hsel_6, hsel_7, hsel_8, hset_0, hset_1, hset_2, hset_3, hset_4, hset_5, hset_6, hset_7, hset_8, hpf_s, hcl_s, hai_s, hpi_0, hpi_1, hln_0, hln_1, List.length_cons, List.length_nil, xwr_1, xwr_2, xnew_1, xnew_n, xnew_s, xnew_z, Nat.reduceLT, ite_true, and_self, hp_8_0, hp_8_1, hn_8_1, hp_8_2, hn_8_2, hp_9_0, hp_9_1, hp_9_2, hp_9_3, hp_9_4, hp_9_5, hn_9_5, hp_9_6, hn_9_6, hp_9_7, hn_9_7, hp_10_0, hp_10_1, hp_10_2, hn_10_2, hp_10_3, hn_10_3, hp_11_0, hp_12_0, hn_12_0, hp_12_1, hp_12_2, hp_12_3, hp_12_4, hp_12_5, hn_12_5, hp_12_6, hn_12_6, hp_12_7, hp_12_8, hp_13_0, hn_13_0, hp_13_1, hp_13_2, hp_13_3, hp_14_0, hn_14_0, hp_14_1, hp_14_2, hp_14_3, xdef_8, xdef_9, xdef_10, xdef_11, xdef_12, xdef_13, xdef_14, Gk_v, Gk_n, xcat_nil, xcat_i, xcat_r, xcat_l, xcat_d, Nat.zero_le, Nat.reduceAdd, Nat.reduceLeDiff, true_and, and_true, ykl_i, ykl_r, ykl_n, ykl_l]
  | succ m ih =>
    intro p σ R hn B hC ha hp
    obtain ⟨E, hE⟩ : ∃ E, E = D0.sfm (prf D0.fm n b p) := ⟨_, rfl⟩
    have hEn : E.n = D0.n := by rw [hE]; rfl
    have hEf : E.fm = prf D0.fm n b p := by rw [hE]; rfl
    rw [← hE] at B
    have hpn : p < E.n := by omega
    have z1 : ¬ yI n ≤ yI p := fun h => absurd ((yI_le (by omega) (by omega)).mp h) (by omega)
    have z4 : yI p + 1 = yI (p + 1) := yI_add
    have c3 : yix (yI p) E.n := yix_I (by omega) (by omega)
    have c3' : yix (yI p) n := yix_I (by omega) (by omega)
    have c4 : (yI p).toNatClampNeg = p := yI_clamp (by omega)
    have hr : xRd σ a1 = some (prow 5 n g) := by rw [yrd_lt h1, ha]
    have S := B.1
    have o0 := S.ob
    obtain ⟨g0, u0, v0⟩ := S.lrow
    have hlr := S.lr0
    have lo1 := S.lm0 hpn
    have lr1 := S.lm1 hpn
    have lc1 := (S.2.2.1 p hpn).2
    have hml := Nat.mod_lt (p + (n - b % n)) (show n > 0 by omega)
    have hCp := hC _ hml
    have B1 := B.fm hpn hCp.1 hCp.2
    rw [hEf, prf_s (by omega), hE, ysfm_sfm] at B1
    rw [← hE] at B1
    have hlmi := B.2.2.1.2.2.2.1.1 p hpn
    have ha1 : (xwr σ (R.lm p) (plamp (E.kd p) (E.pd p) (yb (E.bp p)) (E.fr p) (E.og p) (R.tk p) (R.du p) (R0.fm ((p + (n - b % n)) % n)))).1 a1 = some (prow 5 n g) := by
      rw [xwr_1, if_neg (fun q => hne (by rw [q]; exact hlmi))]
      exact ha
    have hC1 : ∀ q, q < n → pC (xwr σ (R.lm p) (plamp (E.kd p) (E.pd p) (yb (E.bp p)) (E.fr p) (E.og p) (R.tk p) (R.du p) (R0.fm ((p + (n - b % n)) % n)))) (R0.fm q) (D0.fm q) ∧ pcol (D0.fm q) := fun q hq => ⟨pC_lamp (hC q hq).1 lc1, (hC q hq).2⟩
    obtain ⟨τ, R', i1, i2⟩ := ih (p + 1) _ _ hn B1 hC1 ha1 (by omega)
    refine ⟨τ, R', fun Q => ?_, i2⟩
    refine Iff.trans ?_ (i1 Q)
    have f0 := hCp.1.1
    rw [s_146_28]
    simp only [s_146_29, s_146_30, s_146_31, s_146_32, s_146_33, s_146_34, s_146_35, s_146_36, s_146_37, s_146_38, s_146_39, s_146_40, s_146_41, hr, hln_r h1 (show 4 ≤ 5 ∧ 5 ≤ 8 by decide), z1, z4, c3, c3', c4, o0, u0, v0 p hpn, hg p (by omega), f0, lo1, lr1, lc1, haa_t hlr (show 4 ≤ 6 ∧ 6 ≤ 8 by decide), haa_t h1 (show 4 ≤ 5 ∧ 5 ≤ 8 by decide), hop_s, plamp, if_false, hgf_s, hsel_0, hsel_1, hsel_2, hsel_3, hsel_4, hsel_5, hsel_6, hsel_7, hsel_8, hset_0, hset_1, hset_2, hset_3, hset_4, hset_5, hset_6, hset_7, hset_8, hpf_s, hcl_s, hai_s, hpi_0, hpi_1, hln_0, hln_1, List.length_cons, List.length_nil, xwr_1, xwr_2, xnew_1, xnew_n, xnew_s, xnew_z, Nat.reduceLT, ite_true, and_self, hp_8_0, hp_8_1, hn_8_1, hp_8_2, hn_8_2, hp_9_0, hp_9_1, hp_9_2, hp_9_3, hp_9_4, hp_9_5, hn_9_5, hp_9_6, hn_9_6, hp_9_7, hn_9_7, hp_10_0, hp_10_1, hp_10_2, hn_10_2, hp_10_3, hn_10_3, hp_11_0, hp_12_0, hn_12_0, hp_12_1, hp_12_2, hp_12_3, hp_12_4, hp_12_5, hn_12_5, hp_12_6, hn_12_6, hp_12_7, hp_12_8, hp_13_0, hn_13_0, hp_13_1, hp_13_2, hp_13_3, hp_14_0, hn_14_0, hp_14_1, hp_14_2, hp_14_3, xdef_8, xdef_9, xdef_10, xdef_11, xdef_12, xdef_13, xdef_14, Gk_v, Gk_n, xcat_nil, xcat_i, xcat_r, xcat_l, xcat_d, Nat.zero_le, Nat.reduceAdd, Nat.reduceLeDiff, true_and, and_true, ykl_i, ykl_r, ykl_n, ykl_l]
theorem m_146 (B : pU lo hi s cv dn en σ0 c' s' σ R D) (hD : yDok D) (h9 : D.n ≤ 9) (hh : hi ≤ σ0.2.1.1) {b : Nat} (hb : b < 10000) (hr : σ.2.1.1 < 900000) : ∃ τ R', Ra d 146 [.ref s, .int (yI b)] σ (.inl none) τ ∧ pU lo hi s cv dn en σ0 (c' + 1) (s' + 9) τ R' (yturn D b) := by
  obtain ⟨S, Z, J, F⟩ := B
  have hn40 := hD.n40
  have hn1 := hD.n1
  have hh' : hi ≤ σ.2.1.1 := Nat.le_trans hh F.2.2.1.1
  obtain ⟨g0, u0, v0⟩ := S.lrow
  have o0 := S.ob
  have hlr := S.lr0
  have S1 : pS (xnew σ (prow 5 D.n (fun _ => none)) D.n) s R D cv dn en := S.new Z
  have Z1 : pZ (xnew σ (prow 5 D.n (fun _ => none)) D.n) := pZ_new Z
  have F1 : pF (pP lo hi σ0) (c' + 1) (s' + D.n) σ0 (xnew σ (prow 5 D.n (fun _ => none)) D.n) := pF_al F
  have q1 : (xnew σ (prow 5 D.n (fun _ => none)) D.n).1 σ.2.1.1 = some (prow 5 D.n (fun _ => none)) := pnew_at
  obtain ⟨σ1, e1⟩ : ∃ σ1, σ1 = xnew σ (prow 5 D.n (fun _ => none)) D.n := ⟨_, rfl⟩
  rw [← e1] at S1 Z1 F1 q1
  have hpa := pnx_of S Z (Nat.le_refl _)
  have hin : ∀ x, pin lo hi x → x ≠ σ.2.1.1 := fun x hx q => by have := hx.2; omega
  have a9 : σ.2.1.1 < 1000000 := by omega
  obtain ⟨g', i1, -, i3⟩ := l_146a (d := d) (ls := none) (b := b) hD rfl hb S1 a9 (fun q hq => ⟨(hpa q hq).2.2, hin _ (J.2.2.2.1.1 q hq)⟩) (hin _ J.1) (hin _ J.2.1) D.n 0 (fun _ => none) σ1 (fun _ _ => rfl) rfl q1 (fun q hq => absurd hq (Nat.not_lt_zero _)) (Nat.zero_add _)
  have S2 : pS (xwr σ1 σ.2.1.1 (prow 5 D.n g')) s R D cv dn en := S1.wr J (fun q => by have := q.2; omega) hpa
  have Z2 := pZ_wr Z1 q1 (e' := prow 5 D.n g')
  have F2 := pF_hi F1 Z1 q1 F.2.2.1.1 (e' := prow 5 D.n g')
  have q2 : (xwr σ1 σ.2.1.1 (prow 5 D.n g')).1 σ.2.1.1 = some (prow 5 D.n g') := by rw [xwr_1, if_pos rfl]
  rw [if_neg (by omega)] at i1
  obtain ⟨σ2, e2⟩ : ∃ σ2, σ2 = xwr σ1 σ.2.1.1 (prow 5 D.n g') := ⟨_, rfl⟩
  rw [← e2] at S2 Z2 F2 q2 i1
  have hg : ∀ q, q < D.n → g' q = some (R.fm ((q + (D.n - b % D.n)) % D.n)) := by
    intro q hq
    have hbm := Nat.mod_lt b (show 0 < D.n by omega)
    have h := i3 ((q + (D.n - b % D.n)) % D.n) (Nat.mod_lt _ (by omega))
    have e : ((q + (D.n - b % D.n)) % D.n + b) % D.n = q := by
      rw [Nat.mod_add_mod]
      have hd := Nat.div_add_mod b D.n
      have e2 : q + (D.n - b % D.n) + b = q + D.n * (1 + b / D.n) := by
        rw [Nat.mul_add, Nat.mul_one]
        omega
      rw [e2, Nat.add_mul_mod_self_left, Nat.mod_eq_of_lt hq]
    rw [e] at h
    exact h
  have hD0 : D.sfm (prf D.fm D.n b 0) = D := by rw [prf_0]; rfl
  obtain ⟨τ, R', k1, k2⟩ := l_146b (d := d) (ls := none) (s := s) (cv := cv) (dn := dn) (en := en) (σ0 := σ0) (c' := c' + 1) (s' := s' + 9) (lo := lo) (hi := hi) (b := b) (D0 := D) (R0 := R) hn40 hn1 a9 (fun q => by have := q.2; omega) hg D.n 0 σ2 R rfl (by rw [hD0]; exact ⟨S2, Z2, J, F2.mono (fun _ _ q => q) (Nat.le_refl _) (by omega)⟩) (fun q hq => S2.fm hq) q2 (Nat.zero_add _)
  rw [prf_n] at k2
  have n1 : ¬ yI D.n < 0 := fun q => by
    have := (yI_lt (m := 0) (by omega) (by decide)).mp q
    omega
  have n2 : (yI D.n).toNatClampNeg = D.n := yI_clamp (by omega)
  have n3 : D.n ≤ 100000 := by omega
  have ea : Int32.ofNat D.n = yI D.n := rfl
  refine ⟨τ, R', fun Q => ?_, k2⟩
  show G d 146 0 [some (.ref s), some (.int (yI b)), none, none] [] σ Q ↔ _
  have e1' : xnew σ (.inl (5, (D.n, .inr (.inr (.inr (.inr (fun _ => none))))))) D.n = σ1 := e1.symm
  have j1 := i1 Q
  have j2 := k1 Q
  simp only [s_146_0, s_146_1, s_146_2, s_146_3, s_146_4 a9, s_146_5, s_146_6, o0, u0, hln_r hlr (show 4 ≤ 6 ∧ 6 ≤ 8 by decide), ea, n1, n2, n3, hr, not_false_eq_true, e1', hgf_s, hsel_0, hsel_1, hsel_2, hsel_3, hsel_4, hsel_5, hsel_6, hsel_7, hsel_8, hset_0, hset_1, hset_2, hset_3, hset_4, hset_5, hset_6, hset_7, hset_8, hpf_s, hcl_s, hai_s, hpi_0, hpi_1, hln_0, hln_1, List.length_cons, List.length_nil, xwr_1, xwr_2, xnew_1, xnew_n, xnew_s, xnew_z, Nat.reduceLT, ite_true, and_self, hp_8_0, hp_8_1, hn_8_1, hp_8_2, hn_8_2, hp_9_0, hp_9_1, hp_9_2, hp_9_3, hp_9_4, hp_9_5, hn_9_5, hp_9_6, hn_9_6, hp_9_7, hn_9_7, hp_10_0, hp_10_1, hp_10_2, hn_10_2, hp_10_3, hn_10_3, hp_11_0, hp_12_0, hn_12_0, hp_12_1, hp_12_2, hp_12_3, hp_12_4, hp_12_5, hn_12_5, hp_12_6, hn_12_6, hp_12_7, hp_12_8, hp_13_0, hn_13_0, hp_13_1, hp_13_2, hp_13_3, hp_14_0, hn_14_0, hp_14_1, hp_14_2, hp_14_3, xdef_8, xdef_9, xdef_10, xdef_11, xdef_12, xdef_13, xdef_14, Gk_v, Gk_n, xcat_nil, xcat_i, xcat_r, xcat_l, xcat_d, Nat.zero_le, Nat.reduceAdd, Nat.reduceLeDiff, true_and, and_true, ykl_i, ykl_r, ykl_n, ykl_l]
  refine j1.trans (Iff.trans ?_ j2)
  simp only [s_146_26, s_146_27, Gk_v, Gk_n, xcat_nil, xcat_i, xcat_r, xcat_l, xcat_d, Nat.zero_le, Nat.reduceAdd, Nat.reduceLeDiff, true_and, and_true, ykl_i, ykl_r, ykl_n, ykl_l]
  exact Iff.rfl
end
