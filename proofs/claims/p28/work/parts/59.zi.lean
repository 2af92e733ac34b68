/-! ===== what is read is a curve ===== -/
def yev : List Int32 → Nat → Nat → Prop
  | [], a, b => a = b
  | v :: e, a, b => ((-6 ≤ v ∧ v < 10000) ∧ a ≤ 15) ∧ (if -2 ≤ v then yev e (a + 1) b else 2 ≤ a ∧ yev e (a - 1) b)
theorem yev_app : ∀ (e f : List Int32) (a b c : Nat), yev e a b → yev f b c → yev (e ++ f) a c := by
  intro e
  induction e with
  | nil =>
    intro f a b c h1 h2
    have h3 : a = b := h1
    subst h3
    exact h2
  | cons v e ih =>
    intro f a b c h1 h2
    have h1' : ((-6 ≤ v ∧ v < 10000) ∧ a ≤ 15) ∧ (if -2 ≤ v then yev e (a + 1) b else 2 ≤ a ∧ yev e (a - 1) b) := h1
    show ((-6 ≤ v ∧ v < 10000) ∧ a ≤ 15) ∧ (if -2 ≤ v then yev (e ++ f) (a + 1) c else 2 ≤ a ∧ yev (e ++ f) (a - 1) c)
    refine ⟨h1'.1, ?_⟩
    have h4 := h1'.2
    by_cases hv : -2 ≤ v
    · rw [if_pos hv] at h4 ⊢
      exact ih _ _ _ _ h4 h2
    · rw [if_neg hv] at h4 ⊢
      exact ⟨h4.1, ih _ _ _ _ h4.2 h2⟩
theorem yev_1 {v : Int32} {a : Nat} (h1 : -2 ≤ v) (h2 : v < 10000) (ha : a ≤ 15) : yev [v] a (a + 1) := by
  show ((-6 ≤ v ∧ v < 10000) ∧ a ≤ 15) ∧ (if -2 ≤ v then a + 1 = a + 1 else 2 ≤ a ∧ a - 1 = a + 1)
  rw [if_pos h1]
  exact ⟨⟨⟨Int32.le_trans (by decide) h1, h2⟩, ha⟩, rfl⟩
theorem yev_o {v : Int32} {a : Nat} (h1 : -6 ≤ v) (h2 : ¬ -2 ≤ v) (ha : a + 2 ≤ 15) : yev [v] (a + 2) (a + 1) := by
  show ((-6 ≤ v ∧ v < 10000) ∧ a + 2 ≤ 15) ∧ (if -2 ≤ v then a + 2 + 1 = a + 1 else 2 ≤ a + 2 ∧ a + 2 - 1 = a + 1)
  rw [if_neg h2]
  exact ⟨⟨⟨h1, Int32.lt_trans (Int32.not_le.mp h2) (by decide)⟩, ha⟩, by omega, by omega⟩
abbrev yfe (n : Nat) (fac : Nat → List Int32 → yPs) (c : Nat) : Prop := ∀ q l q' l', q ≤ n → fac q l = .inr (q', l') → ∃ e, l' = l ++ e ∧ ∀ a, a + c ≤ 15 → yev e a (a + 1)
section
variable {n : Nat} {B : Nat → Nat} {fac : Nat → List Int32 → yPs} {c : Nat}
theorem yleaf_e : yfe n (yleaf n B) 0 := by
  intro q l q' l' hq h
  unfold yleaf at h
  cases h1 : yisw n B q 13
  · rw [h1, if_neg (by decide)] at h
    cases h2 : yisw n B q 7
    · rw [h2, if_neg (by decide)] at h
      cases h3 : ynum n B q 0 9999
      · rw [h3, if_neg (by decide)] at h
        cases h
      · rw [h3, if_pos rfl] at h
        obtain ⟨-, hv1, hv2⟩ := ynum_lt h3
        generalize yvm B (n - q) q 0 = x at *
        cases h
        refine ⟨_, rfl, fun a ha => yev_1 (Int32.le_trans (by decide) (Int32.not_lt.mp (yI_nneg (by omega)))) ?_ (by omega)⟩
        exact (yI_lt (m := 10000) (by omega) (by decide)).mpr (by omega)
    · rw [h2, if_pos rfl] at h
      cases h
      exact ⟨_, rfl, fun a ha => yev_1 (by decide) (by decide) (by omega)⟩
  · rw [h1, if_pos rfl] at h
    cases h
    exact ⟨_, rfl, fun a ha => yev_1 (by decide) (by decide) (by omega)⟩
theorem ytl_e (hf : yfwd n fac) (he : yfe n fac c) : ∀ m q l q' l', q ≤ n → ytl n B fac m q l = .inr (q', l') → ∃ e, l' = l ++ e ∧ ∀ a, a + (c + 2) ≤ 15 → yev e (a + 1) (a + 1) := by
  intro m
  induction m with
  | zero =>
    intro q l q' l' hq h
    cases h
    exact ⟨[], (List.append_nil _).symm, fun a _ => rfl⟩
  | succ m ih =>
    intro q l q' l' hq h
    rw [ytl] at h
    cases hm : ymul n B q
    · rw [hm, if_neg (by decide)] at h
      cases h
      exact ⟨[], (List.append_nil _).symm, fun a _ => rfl⟩
    · rw [hm, if_pos rfl] at h
      have hlt := ymul_lt hm
      have hs := ysk_le (n := n) (B := B) (m := q + 1) (by omega)
      obtain ⟨q1, l1, h1, h2⟩ := ythen_in h
      have h3 := hf _ _ _ _ hs.2 h1
      obtain ⟨e1, g1, k1⟩ := he _ _ _ _ hs.2 h1
      obtain ⟨e2, g2, k2⟩ := ih _ _ _ _ h3.2 h2
      have ho := yopc_mul hm
      refine ⟨e1 ++ ([yopc n B q] ++ e2), by rw [g2, g1, List.append_assoc, List.append_assoc], fun a ha => ?_⟩
      refine yev_app _ _ _ _ _ (k1 (a + 1) (by omega)) (yev_app _ _ _ (a + 1) _ ?_ (k2 a ha))
      exact yev_o (by rcases ho with h | h <;> rw [h] <;> decide) (by rcases ho with h | h <;> rw [h] <;> decide) (by omega)
theorem ytm_e (hf : yfwd n fac) (he : yfe n fac c) : yfe n (ytm' n B fac) (c + 2) := by
  intro q l q' l' hq h
  obtain ⟨q1, l1, h1, h2⟩ := ythen_in h
  have h3 := hf _ _ _ _ hq h1
  obtain ⟨e1, g1, k1⟩ := he _ _ _ _ hq h1
  obtain ⟨e2, g2, k2⟩ := ytl_e hf he _ _ _ _ _ h3.2 h2
  exact ⟨e1 ++ e2, by rw [g2, g1, List.append_assoc], fun a ha => yev_app _ _ _ _ _ (k1 a (by omega)) (k2 a ha)⟩
theorem ysl_e (hf : yfwd n fac) (he : yfe n fac c) : ∀ m q l q' l', q ≤ n → ysl n B fac m q l = .inr (q', l') → ∃ e, l' = l ++ e ∧ ∀ a, a + (c + 3) ≤ 15 → yev e (a + 1) (a + 1) := by
  intro m
  induction m with
  | zero =>
    intro q l q' l' hq h
    cases h
    exact ⟨[], (List.append_nil _).symm, fun a _ => rfl⟩
  | succ m ih =>
    intro q l q' l' hq h
    rw [ysl] at h
    cases hm : yadd n B q
    · rw [hm, if_neg (by decide)] at h
      cases h
      exact ⟨[], (List.append_nil _).symm, fun a _ => rfl⟩
    · rw [hm, if_pos rfl] at h
      have hlt := yadd_lt hm
      have hs := ysk_le (n := n) (B := B) (m := q + 1) (by omega)
      obtain ⟨q1, l1, h1, h2⟩ := ythen_in h
      have h3 := ytm_fwd hf hs.2 h1
      obtain ⟨e1, g1, k1⟩ := ytm_e hf he _ _ _ _ hs.2 h1
      obtain ⟨e2, g2, k2⟩ := ih _ _ _ _ h3.2 h2
      have ho := yopc_add hm
      refine ⟨e1 ++ ([yopc n B q] ++ e2), by rw [g2, g1, List.append_assoc, List.append_assoc], fun a ha => ?_⟩
      refine yev_app _ _ _ _ _ (k1 (a + 1) (by omega)) (yev_app _ _ _ (a + 1) _ ?_ (k2 a ha))
      exact yev_o (by rcases ho with h | h <;> rw [h] <;> decide) (by rcases ho with h | h <;> rw [h] <;> decide) (by omega)
theorem ysu_e (hf : yfwd n fac) (he : yfe n fac c) : yfe n (ysu n B fac) (c + 3) := by
  intro q l q' l' hq h
  obtain ⟨q1, l1, h1, h2⟩ := ythen_in h
  have h3 := ytm_fwd hf hq h1
  obtain ⟨e1, g1, k1⟩ := ytm_e hf he _ _ _ _ hq h1
  obtain ⟨e2, g2, k2⟩ := ysl_e hf he _ _ _ _ _ h3.2 h2
  exact ⟨e1 ++ e2, by rw [g2, g1, List.append_assoc], fun a ha => yev_app _ _ _ _ _ (k1 a (by omega)) (k2 a ha)⟩
theorem yfac_e : ∀ k, yfe n (yfac n B k) (3 * k) := by
  intro k
  induction k with
  | zero =>
    intro q l q' l' hq h
    rw [yfac] at h
    split at h
    · cases h
    · exact yleaf_e _ _ _ _ hq h
  | succ k ih =>
    intro q l q' l' hq h
    rw [yfac] at h
    split at h
    · rename_i hc
      have hlt := (of_decide_eq_true hc).1
      have hs := ysk_le (n := n) (B := B) (m := q + 1) (by omega)
      obtain ⟨q1, l1, h1, h2⟩ := ythen_in h
      obtain ⟨e1, g1, k1⟩ := ysu_e (yfac_fwd k) ih _ _ _ _ hs.2 h1
      split at h2
      · cases h2
        exact ⟨e1, g1, fun a ha => k1 a (by omega)⟩
      · cases h2
    · obtain ⟨e1, g1, k1⟩ := yleaf_e _ _ _ _ hq h
      exact ⟨e1, g1, fun a ha => k1 a (by omega)⟩
theorem ysum_ev {q q' : Nat} {l' : List Int32} (hq : q ≤ n) (h : ysum' n B q = .inr (q', l')) : (q < q' ∧ q' ≤ n) ∧ (l'.length + q ≤ q' ∧ yev l' 0 1) := by
  have h1 := ysu_fwd (yfac_fwd 4) hq h
  have h2 := ysu_len (yfac_fwd 4) (yfac_len 4) hq h
  obtain ⟨e, g, k⟩ := ysu_e (yfac_fwd 4) (yfac_e 4) _ _ _ _ hq h
  have h3 : ([] : List Int32).length = 0 := rfl
  rw [List.nil_append] at g
  subst g
  exact ⟨h1, by omega, k 0 (by decide)⟩
end
theorem yg_mid {p e : List Int32} {v : Int32} : yg ((p ++ [v]) ++ e) p.length = v := by
  unfold yg
  rw [List.getD_eq_getElem?_getD, List.getElem?_append_left (by rw [yap1]; omega), List.getElem?_append_right (Nat.le_refl _), Nat.sub_self]
  rfl
theorem yev_dep : ∀ (e p : List Int32) (b : Nat), yev e (ydep (yg (p ++ e)) p.length) b → ydep (yg (p ++ e)) (p ++ e).length = b ∧ ∀ i, p.length ≤ i → i < (p ++ e).length → (-6 ≤ yg (p ++ e) i ∧ yg (p ++ e) i < 10000) ∧ (ydep (yg (p ++ e)) i ≤ 15 ∧ (yg (p ++ e) i < -2 → 2 ≤ ydep (yg (p ++ e)) i)) := by
  intro e
  induction e with
  | nil =>
    intro p b h
    rw [List.append_nil] at h ⊢
    exact ⟨h, fun i h1 h2 => by omega⟩
  | cons v e ih =>
    intro p b h
    have E : p ++ v :: e = (p ++ [v]) ++ e := by simp
    rw [E] at h ⊢
    have hm := yg_mid (p := p) (e := e) (v := v)
    have hl : (p ++ [v]).length = p.length + 1 := yap1
    have h' : ((-6 ≤ v ∧ v < 10000) ∧ ydep (yg ((p ++ [v]) ++ e)) p.length ≤ 15) ∧ (if -2 ≤ v then yev e (ydep (yg ((p ++ [v]) ++ e)) p.length + 1) b else 2 ≤ ydep (yg ((p ++ [v]) ++ e)) p.length ∧ yev e (ydep (yg ((p ++ [v]) ++ e)) p.length - 1) b) := h
    have hd : ydep (yg ((p ++ [v]) ++ e)) (p.length + 1) = if -2 ≤ v then ydep (yg ((p ++ [v]) ++ e)) p.length + 1 else ydep (yg ((p ++ [v]) ++ e)) p.length - 1 := by
      rw [ydep, hm]
    obtain ⟨h1, h2⟩ := h'
    have key : yev e (ydep (yg ((p ++ [v]) ++ e)) (p ++ [v]).length) b ∧ (v < -2 → 2 ≤ ydep (yg ((p ++ [v]) ++ e)) p.length) := by
      rw [hl, hd]
      by_cases hv : -2 ≤ v
      · rw [if_pos hv] at h2 ⊢
        exact ⟨h2, fun h3 => absurd hv (Int32.not_le.mpr h3)⟩
      · rw [if_neg hv] at h2 ⊢
        exact ⟨h2.2, fun _ => h2.1⟩
    obtain ⟨g1, g2⟩ := ih (p ++ [v]) b key.1
    refine ⟨g1, fun i hi1 hi2 => ?_⟩
    by_cases hi : i = p.length
    · subst hi
      rw [hm]
      exact ⟨h1.1, h1.2, key.2⟩
    · exact g2 i (by omega) hi2
theorem yCok_ev {l : List Int32} (h6 : l.length ≤ 600) (h : yev l 0 1) : yCok l.length (yg l) := by
  obtain ⟨h1, h2⟩ := yev_dep l [] 1 h
  exact ⟨h6, Or.inr h1, fun i hi => h2 i (Nat.zero_le _) hi⟩
