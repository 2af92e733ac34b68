/-! ===== small checks ===== -/
def ychan (x : Int32) : Bool := decide (0 ≤ x ∧ x ≤ 255)
def yper (k p : Int32) : Bool := if k = 3 then decide (2 ≤ p ∧ p ≤ 9) else decide (p = 0)
section
variable {d : Nat} {σ : xS} {Q : xR → xS → Prop}
theorem m_119 {x : Int32} : Cl d 119 [.int x] σ Q ↔ Q (.inl (some (.int (yb (ychan x))))) σ := by
  show G d 119 0 [some (.int x)] [] σ Q ↔ _
  unfold ychan
  by_cases h1 : x < 0
  · have h2 : ¬ 0 ≤ x := Int32.not_le.mpr h1
    simp only [s_119_0, s_119_1, s_119_2, s_119_3, s_119_4, s_119_5, s_119_6, s_119_7, s_119_8, h1, h2, if_true, false_and, decide_false, ybo_0, Gk_v, Gk_n, xcat_nil, xcat_i, xcat_r, xcat_l, xcat_d, Nat.zero_le, Nat.reduceAdd, Nat.reduceLeDiff, true_and, and_true, ykl_i, ykl_r, ykl_n, ykl_l]
    rfl
  · have h2 : 0 ≤ x := Int32.not_lt.mp h1
    by_cases h3 : 255 < x
    · have h4 : ¬ x ≤ 255 := Int32.not_le.mpr h3
      simp only [s_119_0, s_119_1, s_119_2, s_119_3, s_119_4, s_119_5, s_119_6, s_119_7, s_119_8, h1, h2, h3, h4, if_true, if_false, and_false, decide_false, ybo_0, Gk_v, Gk_n, xcat_nil, xcat_i, xcat_r, xcat_l, xcat_d, Nat.zero_le, Nat.reduceAdd, Nat.reduceLeDiff, true_and, and_true, ykl_i, ykl_r, ykl_n, ykl_l]
      rfl
    · have h4 : x ≤ 255 := Int32.not_lt.mp h3
      simp only [s_119_0, s_119_1, s_119_2, s_119_3, s_119_4, s_119_5, s_119_6, s_119_7, s_119_8, h1, h2, h3, h4, if_true, if_false, and_self, decide_true, ybo_1, Gk_v, Gk_n, xcat_nil, xcat_i, xcat_r, xcat_l, xcat_d, Nat.zero_le, Nat.reduceAdd, Nat.reduceLeDiff, true_and, and_true, ykl_i, ykl_r, ykl_n, ykl_l]
      rfl
theorem m_120 {k p : Int32} : Cl d 120 [.int k, .int p] σ Q ↔ Q (.inl (some (.int (yb (yper k p))))) σ := by
  show G d 120 0 [some (.int k), some (.int p)] [] σ Q ↔ _
  unfold yper
  by_cases hk : k = 3
  · rw [if_pos hk]
    by_cases h1 : p < 2
    · have h2 : ¬ 2 ≤ p := Int32.not_le.mpr h1
      simp only [s_120_0, s_120_1, s_120_2, s_120_3, s_120_4, s_120_5, s_120_6, s_120_7, s_120_8, s_120_9, s_120_10, s_120_11, s_120_12, s_120_13, s_120_14, s_120_15, s_120_16, s_120_17, s_120_18, hk, h1, h2, ne_eq, not_true_eq_false, if_true, if_false, false_and, decide_false, ybo_0, Gk_v, Gk_n, xcat_nil, xcat_i, xcat_r, xcat_l, xcat_d, Nat.zero_le, Nat.reduceAdd, Nat.reduceLeDiff, true_and, and_true, ykl_i, ykl_r, ykl_n, ykl_l]
      rfl
    · have h2 : 2 ≤ p := Int32.not_lt.mp h1
      by_cases h3 : 9 < p
      · have h4 : ¬ p ≤ 9 := Int32.not_le.mpr h3
        simp only [s_120_0, s_120_1, s_120_2, s_120_3, s_120_4, s_120_5, s_120_6, s_120_7, s_120_8, s_120_9, s_120_10, s_120_11, s_120_12, s_120_13, s_120_14, s_120_15, s_120_16, s_120_17, s_120_18, hk, h1, h2, h3, h4, ne_eq, not_true_eq_false, if_true, if_false, and_false, decide_false, ybo_0, Gk_v, Gk_n, xcat_nil, xcat_i, xcat_r, xcat_l, xcat_d, Nat.zero_le, Nat.reduceAdd, Nat.reduceLeDiff, true_and, and_true, ykl_i, ykl_r, ykl_n, ykl_l]
        rfl
      · have h4 : p ≤ 9 := Int32.not_lt.mp h3
        simp only [s_120_0, s_120_1, s_120_2, s_120_3, s_120_4, s_120_5, s_120_6, s_120_7, s_120_8, s_120_9, s_120_10, s_120_11, s_120_12, s_120_13, s_120_14, s_120_15, s_120_16, s_120_17, s_120_18, hk, h1, h2, h3, h4, ne_eq, not_true_eq_false, if_true, if_false, and_self, decide_true, ybo_1, Gk_v, Gk_n, xcat_nil, xcat_i, xcat_r, xcat_l, xcat_d, Nat.zero_le, Nat.reduceAdd, Nat.reduceLeDiff, true_and, and_true, ykl_i, ykl_r, ykl_n, ykl_l]
        rfl
  · rw [if_neg hk]
    by_cases h1 : p = 0
    · simp only [s_120_0, s_120_1, s_120_2, s_120_3, s_120_4, s_120_5, s_120_6, s_120_7, s_120_8, s_120_9, s_120_10, s_120_11, s_120_12, s_120_13, s_120_14, s_120_15, s_120_16, s_120_17, s_120_18, hk, h1, ne_eq, not_true_eq_false, not_false_eq_true, if_true, if_false, decide_true, ybo_1, Gk_v, Gk_n, xcat_nil, xcat_i, xcat_r, xcat_l, xcat_d, Nat.zero_le, Nat.reduceAdd, Nat.reduceLeDiff, true_and, and_true, ykl_i, ykl_r, ykl_n, ykl_l]
      rfl
    · simp only [s_120_0, s_120_1, s_120_2, s_120_3, s_120_4, s_120_5, s_120_6, s_120_7, s_120_8, s_120_9, s_120_10, s_120_11, s_120_12, s_120_13, s_120_14, s_120_15, s_120_16, s_120_17, s_120_18, hk, h1, ne_eq, not_true_eq_false, not_false_eq_true, if_true, if_false, decide_false, ybo_0, Gk_v, Gk_n, xcat_nil, xcat_i, xcat_r, xcat_l, xcat_d, Nat.zero_le, Nat.reduceAdd, Nat.reduceLeDiff, true_and, and_true, ykl_i, ykl_r, ykl_n, ykl_l]
      rfl
def ycols (r g b : Int32) : Bool := ychan r && (ychan g && ychan b)
end
def yisp (D : yD) (p : Int32) : Bool := decide (0 ≤ p ∧ p < yI D.n)
def yisf (D : yD) (p : Int32) : Bool := decide (0 ≤ p ∧ p < yI D.f)
def yff (D : yD) (f q r g b : Int32) : Int32 := if (!yisp D f || !yisp D q) = true then 3 else if (decide (q < f) || !ycols r g b) = true then 2 else 0
section
variable {d o : Nat} {t : yT} {D : yD}
theorem m_32' (W : yW t o D) {j : Int32} : Ra d 32 [.ref o, .int j] (yemb t) (.inl (some (.int (yb (yisp D j))))) (yemb t) := by
  intro Q
  rw [m_32 W.oo, W.n]
  rfl
theorem m_33' (W : yW t o D) {j : Int32} : Ra d 33 [.ref o, .int j] (yemb t) (.inl (some (.int (yb (yisf D j))))) (yemb t) := fun Q => m_33 W
theorem m_38 (W : yW t o D) {f q r g b : Int32} : Ra (d + 1) 38 [.ref o, .int f, .int q, .int r, .int g, .int b] (yemb t) (.inl (some (.int (yff D f q r g b)))) (yemb t) := by
  intro Q
  have g1 := fun j Q' => m_32' (d := d) W (j := j) Q'
  show G (d + 1) 38 0 [some (.ref o), some (.int f), some (.int q), some (.int r), some (.int g), some (.int b)] [] (yemb t) Q ↔ _
  unfold yff ycols
  cases hf : yisp D f
  · simp only [s_38_0, s_38_1, s_38_2, s_38_3, s_38_4, s_38_5, s_38_6, s_38_7, s_38_8, s_38_9, s_38_10, s_38_11, s_38_12, s_38_13, s_38_14, s_38_15, s_38_16, s_38_17, s_38_18, s_38_19, s_38_20, s_38_21, s_38_22, s_38_23, s_38_24, s_38_25, W.oo, g1, hf, ifb, ifbn, Bool.false_eq_true, if_false, if_true, Bool.not_false, Bool.true_or, Gk_v, Gk_n, xcat_nil, xcat_i, xcat_r, xcat_l, xcat_d, Nat.zero_le, Nat.reduceAdd, Nat.reduceLeDiff, true_and, and_true, ykl_i, ykl_r, ykl_n, ykl_l]
  · cases hq : yisp D q
    · simp only [s_38_0, s_38_1, s_38_2, s_38_3, s_38_4, s_38_5, s_38_6, s_38_7, s_38_8, s_38_9, s_38_10, s_38_11, s_38_12, s_38_13, s_38_14, s_38_15, s_38_16, s_38_17, s_38_18, s_38_19, s_38_20, s_38_21, s_38_22, s_38_23, s_38_24, s_38_25, W.oo, g1, hf, hq, ifb, ifbn, Bool.false_eq_true, if_false, if_true, Bool.not_false, Bool.not_true, Bool.false_or, Gk_v, Gk_n, xcat_nil, xcat_i, xcat_r, xcat_l, xcat_d, Nat.zero_le, Nat.reduceAdd, Nat.reduceLeDiff, true_and, and_true, ykl_i, ykl_r, ykl_n, ykl_l]
    · by_cases hlt : q < f
      · simp only [s_38_0, s_38_1, s_38_2, s_38_3, s_38_4, s_38_5, s_38_6, s_38_7, s_38_8, s_38_9, s_38_10, s_38_11, s_38_12, s_38_13, s_38_14, s_38_15, s_38_16, s_38_17, s_38_18, s_38_19, s_38_20, s_38_21, s_38_22, s_38_23, s_38_24, s_38_25, W.oo, g1, hf, hq, hlt, ifb, ifbn, Bool.false_eq_true, if_false, if_true, decide_true, Bool.not_true, Bool.or_self, Bool.true_or, Gk_v, Gk_n, xcat_nil, xcat_i, xcat_r, xcat_l, xcat_d, Nat.zero_le, Nat.reduceAdd, Nat.reduceLeDiff, true_and, and_true, ykl_i, ykl_r, ykl_n, ykl_l]
      · cases hr : ychan r
        · simp only [s_38_0, s_38_1, s_38_2, s_38_3, s_38_4, s_38_5, s_38_6, s_38_7, s_38_8, s_38_9, s_38_10, s_38_11, s_38_12, s_38_13, s_38_14, s_38_15, s_38_16, s_38_17, s_38_18, s_38_19, s_38_20, s_38_21, s_38_22, s_38_23, s_38_24, s_38_25, W.oo, g1, hf, hq, hlt, m_119, hr, ifb, ifbn, Bool.false_eq_true, if_false, if_true, decide_false, Bool.not_true, Bool.or_self, Bool.false_or, Bool.false_and, Bool.not_false, Gk_v, Gk_n, xcat_nil, xcat_i, xcat_r, xcat_l, xcat_d, Nat.zero_le, Nat.reduceAdd, Nat.reduceLeDiff, true_and, and_true, ykl_i, ykl_r, ykl_n, ykl_l]
        · cases hg : ychan g
          · simp only [s_38_0, s_38_1, s_38_2, s_38_3, s_38_4, s_38_5, s_38_6, s_38_7, s_38_8, s_38_9, s_38_10, s_38_11, s_38_12, s_38_13, s_38_14, s_38_15, s_38_16, s_38_17, s_38_18, s_38_19, s_38_20, s_38_21, s_38_22, s_38_23, s_38_24, s_38_25, W.oo, g1, hf, hq, hlt, m_119, hr, hg, ifb, ifbn, Bool.false_eq_true, if_false, if_true, decide_false, Bool.not_true, Bool.or_self, Bool.false_or, Bool.false_and, Bool.true_and, Bool.not_false, Gk_v, Gk_n, xcat_nil, xcat_i, xcat_r, xcat_l, xcat_d, Nat.zero_le, Nat.reduceAdd, Nat.reduceLeDiff, true_and, and_true, ykl_i, ykl_r, ykl_n, ykl_l]
          · cases hb : ychan b
            · simp only [s_38_0, s_38_1, s_38_2, s_38_3, s_38_4, s_38_5, s_38_6, s_38_7, s_38_8, s_38_9, s_38_10, s_38_11, s_38_12, s_38_13, s_38_14, s_38_15, s_38_16, s_38_17, s_38_18, s_38_19, s_38_20, s_38_21, s_38_22, s_38_23, s_38_24, s_38_25, W.oo, g1, hf, hq, hlt, m_119, hr, hg, hb, ifb, ifbn, Bool.false_eq_true, if_false, if_true, decide_false, Bool.not_true, Bool.or_self, Bool.false_or, Bool.true_and, Bool.not_false, Gk_v, Gk_n, xcat_nil, xcat_i, xcat_r, xcat_l, xcat_d, Nat.zero_le, Nat.reduceAdd, Nat.reduceLeDiff, true_and, and_true, ykl_i, ykl_r, ykl_n, ykl_l]
            · simp only [s_38_0, s_38_1, s_38_2, s_38_3, s_38_4, s_38_5, s_38_6, s_38_7, s_38_8, s_38_9, s_38_10, s_38_11, s_38_12, s_38_13, s_38_14, s_38_15, s_38_16, s_38_17, s_38_18, s_38_19, s_38_20, s_38_21, s_38_22, s_38_23, s_38_24, s_38_25, W.oo, g1, hf, hq, hlt, m_119, hr, hg, hb, ifb, ifbn, Bool.false_eq_true, if_false, if_true, decide_false, Bool.not_true, Bool.or_self, Bool.true_and, Gk_v, Gk_n, xcat_nil, xcat_i, xcat_r, xcat_l, xcat_d, Nat.zero_le, Nat.reduceAdd, Nat.reduceLeDiff, true_and, and_true, ykl_i, ykl_r, ykl_n, ykl_l]
/-- a kind and a period are set -/
def ykp (D : yD) (p : Nat) (k v : Int32) : yD := (D.skd (upd D.kd p k)).spd (upd D.pd p v)
theorem yDok_kp (h : yDok D) {p : Nat} (hp : p < D.n) {k v : Int32} (hk : k = 0 ∨ k = 1 ∨ k = 2 ∨ k = 3) (hv : k = 3 → ∃ q, (2 ≤ q ∧ q < 10) ∧ v = yI q) (hb : D.kd p = 0 → ¬ k = 0 → ybad D.kd D.n < 10) : yDok (ykp D p k v) := by
  refine ⟨h.n1, h.n40, h.f1, h.f6, h.fp0, h.fpm, h.fpn, h.ogm, h.fll, h.unu, h.lvv, h.bwn, ?_, ?_, ?_, h.cok⟩
  · intro q hq
    show upd D.kd p k q = 0 ∨ upd D.kd p k q = 1 ∨ upd D.kd p k q = 2 ∨ upd D.kd p k q = 3
    by_cases e : q = p
    · rw [e, yupd_same]
      exact hk
    · rw [yupd_ne e]
      exact h.kdk q hq
  · intro q hq h3
    have h3' : upd D.kd p k q = 3 := h3
    show ∃ r, (2 ≤ r ∧ r < 10) ∧ upd D.pd p v q = yI r
    by_cases e : q = p
    · rw [e, yupd_same] at h3' ⊢
      exact hv h3'
    · rw [yupd_ne e] at h3' ⊢
      exact h.pdp q hq h3'
  · show ybad (upd D.kd p k) D.n ≤ 10
    have h1 := ybad_upd (k := D.kd) (v := k) D.n hp
    have h2 := h.bad
    by_cases e0 : k = 0
    · rw [if_pos e0] at h1
      omega
    · rw [if_neg e0] at h1
      by_cases e1 : D.kd p = 0
      · rw [if_pos e1] at h1
        have := hb e1 e0
        omega
      · rw [if_neg e1] at h1
        omega
theorem yV_kp {p : Nat} {k v : Int32} (V : yV t o D) : yV ((t.s1 (o + 3) p k).s1 (o + 4) p v) o (ykp D p k v) := by
  have h1 := yV_skd (p := p) (v := k) V
  have h2 := yV_spd (p := p) (v := v) h1
  rw [yskd_pd] at h2
  exact h2
theorem yN_kp {S : Nat → Int32} {p : Nat} {k v : Int32} (N : yN S D) (hp : p < 40) : yN (upd (upd S (8 + 8 * p + 0) k) (8 + 8 * p + 2) v) (ykp D p k v) := by
  have h1 := yN_skd (v := k) N hp
  have h2 := yN_spd (v := v) h1 hp
  rw [yskd_pd] at h2
  exact h2
theorem m_36 (ho : yisO 4 o) {p : Nat} (hp : p < 40) {k v : Int32} : Ra d 36 [.ref o, .int (yI p), .int k, .int v] (yemb t) (.inl none) (yemb ((t.s1 (o + 3) p k).s1 (o + 4) p v)) := by
  intro Q
  have h2 : yix (yI p) 40 := yix_I (by omega) (by omega)
  have h3 : (yI p).toNatClampNeg = p := yI_clamp (by omega)
  show G d 36 0 [some (.ref o), some (.int (yI p)), some (.int k), some (.int v)] [] (yemb t) Q ↔ _
  simp only [s_36_0, s_36_1, s_36_2, s_36_3, s_36_4, s_36_5, s_36_6, s_36_7, s_36_8, s_36_9, s_36_10, ho, yAs_3 ho, yns_3 ho, yAs_4 ho, yns_4 ho, h2, h3, Gk_v, Gk_n, xcat_nil, xcat_i, xcat_r, xcat_l, xcat_d, Nat.zero_le, Nat.reduceAdd, Nat.reduceLeDiff, true_and, and_true, ykl_i, ykl_r, ykl_n, ykl_l]
end
/-! ===== turning ===== -/
theorem yI_sub {a b : Nat} (h : b ≤ a) : yI a - yI b = yI (a - b) := by
  have e : a = (a - b) + b := by omega
  have : yI a = yI (a - b) + yI b := by rw [yI_add, ← e]
  rw [this, Int32.add_sub_cancel]
theorem yI_rem {a n : Nat} (ha : a < 2147483648) (hn : n < 2147483648) : yI a - yI a / yI n * yI n = yI (a % n) := by
  have h1 : a / n * n ≤ a := Nat.div_mul_le_self a n
  rw [yI_div ha hn, yI_mul, yI_sub h1]
  congr 1
  have := Nat.div_add_mod a n
  rw [Nat.mul_comm] at this
  omega
def ytF (f : Nat → Int32) (n b q : Nat) : Int32 := if q < n then f ((q + (n - b % n)) % n) else f q
theorem ytF_of {f F : Nat → Int32} {n b : Nat} (hn : 1 ≤ n) (h1 : ∀ p, p < n → F ((p + b) % n) = f p) (h2 : ∀ q, n ≤ q → F q = f q) : F = ytF f n b := by
  funext q
  unfold ytF
  by_cases hq : q < n
  · rw [if_pos hq]
    have hb := Nat.mod_lt b (show 0 < n by omega)
    have h := h1 ((q + (n - b % n)) % n) (Nat.mod_lt _ (by omega))
    have e : ((q + (n - b % n)) % n + b) % n = q := by
      rw [Nat.mod_add_mod]
      have hd := Nat.div_add_mod b n
      have e2 : q + (n - b % n) + b = q + n * (1 + b / n) := by
        rw [Nat.mul_add, Nat.mul_one]
        omega
      rw [e2, Nat.add_mul_mod_self_left, Nat.mod_eq_of_lt hq]
    rw [e] at h
    exact h
  · rw [if_neg hq]
    exact h2 q (by omega)
theorem ymod_ne {p i b n : Nat} (h1 : p < i) (h2 : i < n) : (p + b) % n ≠ (i + b) % n := by
  intro e
  have h := Nat.sub_mod_eq_zero_of_mod_eq e.symm
  rw [show i + b - (p + b) = i - p by omega, Nat.mod_eq_of_lt (by omega)] at h
  omega
theorem ysfm_sfm {D : yD} {f g : Nat → Int32} : (D.sfm f).sfm g = D.sfm g := rfl
theorem yDok_sfm2 {D : yD} {f g : Nat → Int32} (h : yDok (D.sfm f)) : yDok (D.sfm g) := by
  have h1 := yDok_sfm (v := g) h
  rw [ysfm_sfm] at h1
  exact h1
theorem yV_sfm2 {t : yT} {o p : Nat} {v : Int32} {D : yD} {f : Nat → Int32} (h : yV t o (D.sfm f)) : yV (t.s1 (o + 1) p v) o (D.sfm (upd f p v)) := by
  have h1 := yV_sfm (p := p) (v := v) h
  rw [ysfm_fm, ysfm_sfm] at h1
  exact h1
theorem yN_sfm2 {S : Nat → Int32} {p : Nat} {v : Int32} {D : yD} {f : Nat → Int32} (h : yN S (D.sfm f)) (hp : p < 40) : yN (upd S (8 + 8 * p + 7) v) (D.sfm (upd f p v)) := by
  have h1 := yN_sfm (v := v) h hp
  rw [ysfm_fm, ysfm_sfm] at h1
  exact h1
def yturn (D : yD) (b : Nat) : yD := D.sfm (ytF D.fm D.n b)
section
variable {d o : Nat} {D : yD}
theorem l_40 {b : Nat} (hb : b < 10000) (ho : yisO 4 o) : ∀ m i (t : yT) (F : Nat → Int32), yW t o (D.sfm F) → (∀ p, p < D.n → t.A (o + 10) p = D.fm p) → i + m = D.n → (∀ p, p < i → F ((p + b) % D.n) = D.fm p) → (∀ q, D.n ≤ q → F q = D.fm q) → ∃ (u : yT) (F' : Nat → Int32), Ga d 40 11 [some (.ref o), some (.int (yI b)), some (.int (yI i))] [] (yemb t) (.inl (some (.int (F' 0)))) (yemb u) ∧ ((yW u o (D.sfm F') ∧ ((∀ p, p < D.n → F' ((p + b) % D.n) = D.fm p) ∧ (∀ q, D.n ≤ q → F' q = D.fm q))) ∧ yFr (fun a => a = o + 1) t u) := by
  intro m
  induction m with
  | zero =>
    intro i t F W hr hi h1 h2
    have hn : t.A o 9 = yI D.n := W.n
    have e : i = D.n := by omega
    have h3 : yI D.n ≤ yI D.n := Int32.le_refl _
    have h0 : yix 0 40 := yix_I (n := 0) (by omega) (by omega)
    have hf : t.A (o + 1) 0 = F 0 := W.fm 0 (by omega)
    refine ⟨t, F, fun Q => ?_, ⟨W, fun p hp => h1 p (by omega), h2⟩, yFr.rfl'⟩
    rw [s_40_11]
    simp only [s_40_0, s_40_1, s_40_2, s_40_3, s_40_4, s_40_5, s_40_6, s_40_7, s_40_9, s_40_10, s_40_12, s_40_13, s_40_14, s_40_15, s_40_16, s_40_17, s_40_18, s_40_19, s_40_20, s_40_21, s_40_22, s_40_23, s_40_24, s_40_25, s_40_26, s_40_27, s_40_28, s_40_29, s_40_30, s_40_31, s_40_32, s_40_33, s_40_34, ho, hn, e, h3, if_true, yAs_1 ho, yns_1 ho, h0, ycl0, hf, Gk_v, Gk_n, xcat_nil, xcat_i, xcat_r, xcat_l, xcat_d, Nat.zero_le, Nat.reduceAdd, Nat.reduceLeDiff, true_and, and_true, ykl_i, ykl_r, ykl_n, ykl_l]
  | succ m ih =>
    intro i t F W hr hi h1 h2
    have hn : t.A o 9 = yI D.n := W.n
    have hn40 : D.n ≤ 40 := yDok.n40 (D := D.sfm F) W.ok
    have h3 : ¬ yI D.n ≤ yI i := fun h => absurd ((yI_le (by omega) (by omega)).mp h) (by omega)
    have hn0 : ¬ yI D.n = 0 := fun h => absurd ((yI_inj (m := 0) (by omega) (by omega)).mp h) (by omega)
    have hm := Nat.mod_lt (i + b) (show 0 < D.n by omega)
    have e1 : yI i + yI b = yI (i + b) := yI_add
    have e2 : yI (i + b) - yI (i + b) / yI D.n * yI D.n = yI ((i + b) % D.n) := yI_rem (by omega) (by omega)
    have g1 : yix (yI i) 40 := yix_I (by omega) (by omega)
    have g2 : (yI i).toNatClampNeg = i := yI_clamp (by omega)
    have g3 : yix (yI ((i + b) % D.n)) 40 := yix_I (by omega) (by omega)
    have g4 : (yI ((i + b) % D.n)).toNatClampNeg = (i + b) % D.n := yI_clamp (by omega)
    have h4 : yI i + 1 = yI (i + 1) := yI_add
    have hri := hr i (by omega)
    have W1 : yW (t.s1 (o + 1) ((i + b) % D.n) (D.fm i)) o (D.sfm (upd F ((i + b) % D.n) (D.fm i))) := ⟨yDok_sfm2 W.ok, yV_sfm2 W.v⟩
    obtain ⟨u, F', hu, hw, Fu⟩ := ih (i + 1) _ _ W1 (fun p hp => by
        rw [ys1_ne (by omega)]
        exact hr p hp) (by omega) (fun p hp => by
        by_cases e : p = i
        · rw [e, yupd_same]
        · rw [yupd_ne (ymod_ne (by omega) (by omega))]
          exact h1 p (by omega)) (fun q hq => by
        rw [yupd_ne (by omega)]
        exact h2 q hq)
    refine ⟨u, F', fun Q => ?_, hw, (yFr_s1 (P := fun a => a = o + 1) rfl).trans Fu (fun a h => by omega)⟩
    rw [s_40_11]
    simp only [s_40_0, s_40_1, s_40_2, s_40_3, s_40_4, s_40_5, s_40_6, s_40_7, s_40_9, s_40_10, s_40_12, s_40_13, s_40_14, s_40_15, s_40_16, s_40_17, s_40_18, s_40_19, s_40_20, s_40_21, s_40_22, s_40_23, s_40_24, s_40_25, s_40_26, s_40_27, s_40_28, s_40_29, s_40_30, s_40_31, s_40_32, s_40_33, s_40_34, ho, hn, h3, hn0, not_false_eq_true, if_false, yAs_1 ho, yns_1 ho, yAs_10 ho, yns_10 ho, e1, e2, g1, g2, g3, g4, h4, hri, hu, Gk_v, Gk_n, xcat_nil, xcat_i, xcat_r, xcat_l, xcat_d, Nat.zero_le, Nat.reduceAdd, Nat.reduceLeDiff, true_and, and_true, ykl_i, ykl_r, ykl_n, ykl_l]
theorem m_40 {b : Nat} (hb : b < 10000) {t : yT} (W : yW t o D) : ∃ u, Ra d 40 [.ref o, .int (yI b)] (yemb t) (.inl (some (.int ((yturn D b).fm 0)))) (yemb u) ∧ (yW u o (yturn D b) ∧ yFr (fun a => a = o + 1 ∨ a = o + 10) t u) := by
  have ho := W.oo
  have hn1 := W.ok.n1
  have hn40 := W.ok.n40
  have W1 : yW (t.sA (o + 10) (va_cpy (t.A (o + 1)) (t.A (o + 10)) 0 0 D.n)) o D := yW_fr W (yFr_sA (P := fun a => a = o + 10) rfl) (fun a _ _ (h : a = o + 10) => by omega)
  obtain ⟨u, F', hu, ⟨Wu, a1, a2⟩, Fu⟩ := l_40 (d := d) (D := D) hb ho D.n 0 _ D.fm W1 (fun p hp => by
    rw [ysA_same, ycpy hp]
    exact W.fm p (by omega)) (Nat.zero_add _) (fun p hp => absurd hp (Nat.not_lt_zero _)) (fun q hq => rfl)
  have e := ytF_of hn1 a1 a2
  subst e
  refine ⟨u, fun Q => ?_, Wu, (yFr_sA (P := fun a => a = o + 10) rfl).trans Fu (fun a h => by omega)⟩
  have hl1 : D.n ≤ yn (o + 10) := by
    rw [yns_10 ho]
    omega
  have hl2 : D.n ≤ yn (o + 1) := by
    rw [yns_1 ho]
    omega
  have hl3 : D.n < 2147483648 := by omega
  have hl4 : xcat [] ≤ 8 := Nat.zero_le _
  show G d 40 0 [some (.ref o), some (.int (yI b)), none] [] (yemb t) Q ↔ _
  have hcp := fun (ls : xL) Q' => gs_copy (d := d) (r := []) (ls := ls) (t := t) (Q := Q') f_40_8 rfl hl3 (yAs_10 ho) (yAs_1 ho) hl1 hl2 hl4
  simp only [s_40_0, s_40_1, s_40_2, s_40_3, s_40_4, s_40_5, s_40_6, s_40_7, s_40_9, s_40_10, ho, W.n, hcp, Gk_v, Gk_n, xcat_nil, xcat_i, xcat_r, xcat_l, xcat_d, Nat.zero_le, Nat.reduceAdd, Nat.reduceLeDiff, true_and, and_true, ykl_i, ykl_r, ykl_n, ykl_l]
  exact hu Q
end
