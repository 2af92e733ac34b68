/-! ===== a run over cells that lie further on ===== -/
def shr (m N a b : Nat) : Prop := (a < N ∧ b = a + m) ∨ (1000000 ≤ a ∧ b = a)
def shv (m N : Nat) (v w : Value) : Prop := match v with
  | .ref a => ∃ b : Nat, w = .ref b ∧ shr m N a b
  | v => w = v
def she (m N : Nat) (e e2 : xE) : Prop := match e with
  | .inl (t, (n, .inr (.inr (.inr (.inr f))))) => ∃ f2, e2 = .inl (t, (n, .inr (.inr (.inr (.inr f2))))) ∧ ∀ j, (f j = none → f2 j = none) ∧ ∀ b, f j = some b → ∃ b2, f2 j = some b2 ∧ shr m N b b2
  | .inl x => e2 = .inl x
  | .inr (c, fs) => ∃ gs, e2 = .inr (c, gs) ∧ (gs.length = fs.length ∧ ∀ (i : Nat) (v : Value), fs[i]? = some v → ∃ w, gs[i]? = some w ∧ shv m N v w)
def shl (m N : Nat) (ls l2 : xL) : Prop := l2.length = ls.length ∧ ∀ (i : Nat) (v : Value), ls[i]? = some (some v) → ∃ w, l2[i]? = some (some w) ∧ shv m N v w
def sht (m N : Nat) : List Value → List Value → Prop
  | [], l => l = []
  | v :: r, l => ∃ w q, l = w :: q ∧ (shv m N v w ∧ sht m N r q)
def shs (m k : Nat) (σ τ : xS) : Prop := (∀ a e, σ.1 a = some e → a < σ.2.1.1 ∧ ∃ e2, τ.1 (a + m) = some e2 ∧ she m σ.2.1.1 e e2) ∧ (τ.2.1.1 = σ.2.1.1 + m ∧ (τ.2.1.2 = σ.2.1.2 + k ∧ τ.2.2 = σ.2.2))
theorem shr_le {m N N' a b : Nat} (h : N ≤ N') (g : shr m N a b) : shr m N' a b := by
  rcases g with ⟨g1, g2⟩ | g
  · exact Or.inl ⟨by omega, g2⟩
  · exact Or.inr g
theorem shv_le {m N N' : Nat} {v w : Value} (h : N ≤ N') (g : shv m N v w) : shv m N' v w := by
  cases v <;> first | exact g | skip
  obtain ⟨b, g1, g2⟩ := g
  exact ⟨b, g1, shr_le h g2⟩
theorem she_le {m N N' : Nat} {e e2 : xE} (h : N ≤ N') (g : she m N e e2) : she m N' e e2 := by
  rcases e with ⟨t, n, f | f | f | f | f⟩ | ⟨c, fs⟩
  · exact g
  · exact g
  · exact g
  · exact g
  · obtain ⟨f2, g1, g2⟩ := g
    refine ⟨f2, g1, fun j => ⟨(g2 j).1, fun b hb => ?_⟩⟩
    obtain ⟨b2, g3, g4⟩ := (g2 j).2 b hb
    exact ⟨b2, g3, shr_le h g4⟩
  · obtain ⟨gs, g1, g2, g3⟩ := g
    refine ⟨gs, g1, g2, fun i v hv => ?_⟩
    obtain ⟨w, g4, g5⟩ := g3 i v hv
    exact ⟨w, g4, shv_le h g5⟩
theorem shl_le {m N N' : Nat} {ls l2 : xL} (h : N ≤ N') (g : shl m N ls l2) : shl m N' ls l2 := by
  refine ⟨g.1, fun i v hv => ?_⟩
  obtain ⟨w, g1, g2⟩ := g.2 i v hv
  exact ⟨w, g1, shv_le h g2⟩
theorem sht_le {m N N' : Nat} (h : N ≤ N') : ∀ (st s2 : List Value), sht m N st s2 → sht m N' st s2 := by
  intro st
  induction st with
  | nil => intro s2 g; exact g
  | cons v r ih =>
    rintro s2 ⟨w, q, g1, g2, g3⟩
    exact ⟨w, q, g1, shv_le h g2, ih q g3⟩
theorem shv_cat {m N : Nat} {v w : Value} (g : shv m N v w) : w.category = v.category := by
  cases v <;> first | (obtain rfl := g; rfl) | skip
  obtain ⟨b, g1, -⟩ := g
  rw [g1]
  rfl
theorem sht_cat {m N : Nat} : ∀ {st s2 : List Value}, sht m N st s2 → xcat s2 = xcat st := by
  intro st
  induction st with
  | nil => rintro s2 rfl; rfl
  | cons v r ih =>
    rintro s2 ⟨w, q, rfl, g2, g3⟩
    show w.category + xcat q = v.category + xcat r
    rw [shv_cat g2, ih g3]
theorem sht_len {m N : Nat} : ∀ {st s2 : List Value}, sht m N st s2 → s2.length = st.length := by
  intro st
  induction st with
  | nil => rintro s2 rfl; rfl
  | cons v r ih =>
    rintro s2 ⟨w, q, rfl, g2, g3⟩
    simp [ih g3]
theorem sht_drop {m N : Nat} : ∀ (n : Nat) {st s2 : List Value}, sht m N st s2 → sht m N (st.drop n) (s2.drop n) := by
  intro n
  induction n with
  | zero => intro st s2 h; exact h
  | succ n ih =>
    intro st s2 h
    cases st with
    | nil => obtain rfl := h; exact rfl
    | cons v r =>
      obtain ⟨w, q, rfl, -, g3⟩ := h
      exact ih g3
theorem sht_take {m N : Nat} : ∀ (n : Nat) {st s2 : List Value}, sht m N st s2 → sht m N (st.take n) (s2.take n) := by
  intro n
  induction n with
  | zero => intro st s2 h; exact rfl
  | succ n ih =>
    intro st s2 h
    cases st with
    | nil => obtain rfl := h; exact rfl
    | cons v r =>
      obtain ⟨w, q, rfl, g2, g3⟩ := h
      exact ⟨w, q.take n, rfl, g2, ih g3⟩
theorem sht_app {m N : Nat} : ∀ {st s2 su s3 : List Value}, sht m N st s2 → sht m N su s3 → sht m N (st ++ su) (s2 ++ s3) := by
  intro st
  induction st with
  | nil => rintro s2 su s3 rfl h; exact h
  | cons v r ih =>
    rintro s2 su s3 ⟨w, q, rfl, g2, g3⟩ h
    exact ⟨w, q ++ s3, rfl, g2, ih g3 h⟩
theorem sht_rev {m N : Nat} : ∀ {st s2 : List Value}, sht m N st s2 → sht m N st.reverse s2.reverse := by
  intro st
  induction st with
  | nil => rintro s2 rfl; exact rfl
  | cons v r ih =>
    rintro s2 ⟨w, q, rfl, g2, g3⟩
    simp only [List.reverse_cons]
    exact sht_app (ih g3) ⟨w, [], rfl, g2, rfl⟩
theorem xargs_sh {m N : Nat} : ∀ {as a2 : List Value}, sht m N as a2 → shl m N (xargs as) (xargs a2) := by
  intro as
  induction as with
  | nil => rintro a2 rfl; exact ⟨rfl, fun i v h => by simp [xargs] at h⟩
  | cons v r ih =>
    rintro a2 ⟨w, q, rfl, g2, g3⟩
    obtain ⟨i1, i2⟩ := ih g3
    have one : ∀ (v w : Value), shv m N v w → shl m N (some v :: xargs r) (some w :: xargs q) := by
      intro v w g2
      refine ⟨by simp [i1], fun i u hu => ?_⟩
      cases i with
      | zero =>
        simp only [List.getElem?_cons_zero, Option.some.injEq] at hu
        subst hu
        exact ⟨w, rfl, g2⟩
      | succ i => exact i2 i u hu
    have two : ∀ (v w : Value), shv m N v w → shl m N (some v :: none :: xargs r) (some w :: none :: xargs q) := by
      intro v w g2
      refine ⟨by simp [i1], fun i u hu => ?_⟩
      match i, hu with
      | 0, hu =>
        simp only [List.getElem?_cons_zero, Option.some.injEq] at hu
        subst hu
        exact ⟨w, rfl, g2⟩
      | 1, hu => simp at hu
      | i + 2, hu => exact i2 i u hu
    cases v with
    | ref a =>
      obtain ⟨b, rfl, g4⟩ := g2
      exact one _ _ ⟨b, rfl, g4⟩
    | long x =>
      obtain rfl : w = .long x := g2
      exact two _ _ rfl
    | double x =>
      obtain rfl : w = .double x := g2
      exact two _ _ rfl
    | _ =>
      obtain rfl := g2
      exact one _ _ rfl
theorem xentry_sh {m N n : Nat} {as a2 : List Value} (h : sht m N as a2) : shl m N (xentry as n) (xentry a2 n) := by
  obtain ⟨h1, h2⟩ := xargs_sh h
  unfold xentry
  rw [h1]
  refine ⟨by simp [h1], fun i v hv => ?_⟩
  by_cases hi : i < (xargs as).length
  · rw [List.getElem?_append_left hi] at hv
    obtain ⟨w, g1, g2⟩ := h2 i v hv
    exact ⟨w, by rw [List.getElem?_append_left (by omega)]; exact g1, g2⟩
  · rw [List.getElem?_append_right (by omega), List.getElem?_replicate] at hv
    split at hv <;> cases hv
theorem xkill_keep {l : xL} {n i : Nat} {w : Value} (h : l[i]? = some (some w)) (hn : ¬ (i + 1 = n ∧ w.category = 2)) : (xkill l n)[i]? = some (some w) := by
  unfold xkill
  cases n with
  | zero => exact h
  | succ n =>
    simp only
    split
    · rename_i x hx
      by_cases hi : n = i
      · subst hi
        rw [hx] at h
        cases h
        exact absurd ⟨rfl, rfl⟩ hn
      · rw [List.getElem?_set, if_neg hi]; exact h
    · rename_i x hx
      by_cases hi : n = i
      · subst hi
        rw [hx] at h
        cases h
        exact absurd ⟨rfl, rfl⟩ hn
      · rw [List.getElem?_set, if_neg hi]; exact h
    · exact h
theorem shl_kill {m N n : Nat} {ls l2 : xL} (h : shl m N ls l2) : shl m N (xkill ls n) (xkill l2 n) := by
  refine ⟨by rw [xkill_length, xkill_length]; exact h.1, fun i v hv => ?_⟩
  obtain ⟨g1, g2⟩ := xkill_get hv
  obtain ⟨w, g3, g4⟩ := h.2 i v g1
  exact ⟨w, xkill_keep g3 (by rw [shv_cat g4]; exact g2), g4⟩
theorem shl_set {m N n : Nat} {ls l2 : xL} {v w : Value} (h : shl m N ls l2) (g : shv m N v w) : shl m N (ls.set n (some v)) (l2.set n (some w)) := by
  refine ⟨by simp [h.1], fun i u hu => ?_⟩
  rw [List.getElem?_set] at hu
  rw [List.getElem?_set]
  by_cases hi : n = i
  · subst hi
    rw [if_pos rfl] at hu ⊢
    split at hu
    · rename_i hl
      cases hu
      exact ⟨w, by rw [if_pos (by rw [h.1]; exact hl)], g⟩
    · cases hu
  · rw [if_neg hi] at hu ⊢
    exact h.2 i u hu
theorem shl_setn {m N n : Nat} {ls l2 : xL} (h : shl m N ls l2) : shl m N (ls.set n none) (l2.set n none) := by
  refine ⟨by simp [h.1], fun i u hu => ?_⟩
  rw [List.getElem?_set] at hu
  rw [List.getElem?_set]
  by_cases hi : n = i
  · subst hi
    rw [if_pos rfl] at hu
    split at hu <;> cases hu
  · rw [if_neg hi] at hu ⊢
    exact h.2 i u hu
theorem she_out {m N a : Nat} {σ : xS} {e : xE} (h : xExt σ a = some e) : she m N e e := by
  unfold xExt at h
  split at h
  · cases h; exact rfl
  · split at h
    · cases h; exact rfl
    · split at h
      · rename_i h1
        cases h
        refine ⟨_, rfl, rfl, fun i v hv => ?_⟩
        match i, hv with
        | 0, hv =>
          cases hv
          exact ⟨_, rfl, _, rfl, Or.inr ⟨by omega, rfl⟩⟩
        | 1, hv =>
          cases hv
          exact ⟨_, rfl, rfl⟩
        | i + 2, hv => simp at hv
      · split at h
        · cases h
          refine ⟨_, rfl, fun j => ⟨fun h => h, fun b hb => ⟨b, hb, Or.inr ⟨?_, rfl⟩⟩⟩⟩
          obtain ⟨z, -, hz⟩ := Option.map_eq_some_iff.mp hb
          omega
        · split at h
          · cases h; exact rfl
          · split at h
            · cases h; exact rfl
            · cases h
section
variable {m k : Nat} {σ τ : xS}
theorem shs_rd (h : shs m k σ τ) (hN : σ.2.1.1 + m ≤ 890000) {a b : Nat} (g : shr m σ.2.1.1 a b) {e : xE} (he : xRd σ a = some e) : ∃ e2, xRd τ b = some e2 ∧ she m σ.2.1.1 e e2 := by
  rcases g with ⟨g1, rfl⟩ | ⟨g1, rfl⟩
  · rw [yrd_lt (by omega)] at he ⊢
    exact (h.1 a e he).2
  · have h1 : ¬ b < 1000000 := by omega
    have e1 : xRd σ b = xExt σ b := by unfold xRd; rw [if_neg h1]
    have e2 : xRd τ b = xExt τ b := by unfold xRd; rw [if_neg h1]
    have e3 : xExt τ b = xExt σ b := by unfold xExt; rw [h.2.2.2]
    rw [e1] at he
    exact ⟨e, by rw [e2, e3]; exact he, she_out he⟩
theorem shs_in (hN : σ.2.1.1 + m ≤ 890000) {a b : Nat} (g : shr m σ.2.1.1 a b) (ha : a < 1000000) : b = a + m ∧ b < 1000000 := by
  rcases g with ⟨g1, g2⟩ | ⟨g1, -⟩
  · exact ⟨g2, by omega⟩
  · omega
theorem shs_wr (h : shs m k σ τ) {a : Nat} {e e2 : xE} (ha : a < σ.2.1.1) (g : she m σ.2.1.1 e e2) : shs m k (xwr σ a e) (xwr τ (a + m) e2) := by
  refine ⟨fun b u hu => ?_, h.2⟩
  have hu' : (if b = a then some e else σ.1 b) = some u := hu
  show b < σ.2.1.1 ∧ ∃ v2, (if b + m = a + m then some e2 else τ.1 (b + m)) = some v2 ∧ she m σ.2.1.1 u v2
  by_cases hb : b = a
  · subst hb
    rw [if_pos rfl] at hu'
    cases hu'
    exact ⟨ha, e2, by rw [if_pos rfl], g⟩
  · rw [if_neg hb] at hu'
    rw [if_neg (by omega)]
    exact h.1 b u hu'
theorem shs_new (h : shs m k σ τ) {e e2 : xE} {n : Nat} (g : she m (σ.2.1.1 + 1) e e2) : shs m k (xnew σ e n) (xnew τ e2 n) := by
  refine ⟨fun b u hu => ?_, by show τ.2.1.1 + 1 = σ.2.1.1 + 1 + m; rw [h.2.1]; omega, by show τ.2.1.2 + n = σ.2.1.2 + n + k; rw [h.2.2.1]; omega, h.2.2.2⟩
  have hu' : (if b = σ.2.1.1 then some e else σ.1 b) = some u := hu
  show b < σ.2.1.1 + 1 ∧ ∃ v2, (if b + m = τ.2.1.1 then some e2 else τ.1 (b + m)) = some v2 ∧ she m (σ.2.1.1 + 1) u v2
  rw [h.2.1]
  by_cases hb : b = σ.2.1.1
  · subst hb
    rw [if_pos rfl] at hu'
    cases hu'
    exact ⟨by omega, e2, by rw [if_pos rfl], g⟩
  · rw [if_neg hb] at hu'
    rw [if_neg (by omega)]
    obtain ⟨q1, v2, q2, q3⟩ := h.1 b u hu'
    exact ⟨by omega, v2, q2, she_le (by omega) q3⟩
end
/-- what comes of a step, on the two sides -/
def sho (m k : Nat) (σ τ : xS) (o o2 : xA) : Prop := match o with
  | .inl (i', ls', st', σ') => ∃ l2 s2 τ', o2 = .inl (i', l2, s2, τ') ∧ (shl m σ'.2.1.1 ls' l2 ∧ (sht m σ'.2.1.1 st' s2 ∧ shs m k σ' τ'))
  | .inr (.inl (k', as, rest)) => ∃ a2 r2, o2 = .inr (.inl (k', a2, r2)) ∧ (sht m σ.2.1.1 as a2 ∧ sht m σ.2.1.1 rest r2)
  | .inr (.inr (.inl none)) => o2 = .inr (.inr (.inl none))
  | .inr (.inr (.inl (some v))) => ∃ w, o2 = .inr (.inr (.inl (some w))) ∧ shv m σ.2.1.1 v w
  | .inr (.inr (.inr e)) => o2 = .inr (.inr (.inr e))
section
variable {m k : Nat} {σ τ : xS} {i : Nat} {ls l2 : xL} {st s2 : List Value} {o : xA} {n : Nat}
theorem sh_push {v w : Value} (hl : shl m σ.2.1.1 ls l2) (ht : sht m σ.2.1.1 st s2) (hs : shs m k σ τ) (g : shv m σ.2.1.1 v w) (h : xpush i ls v st σ = some o) : ∃ o2, xpush i l2 w s2 τ = some o2 ∧ sho m k σ τ o o2 := by
  unfold xpush at h ⊢
  cases h
  exact ⟨_, rfl, _, _, _, rfl, hl, ⟨_, _, rfl, g, ht⟩, hs⟩
theorem sh_loadI (hl : shl m σ.2.1.1 ls l2) (ht : sht m σ.2.1.1 st s2) (hs : shs m k σ τ) (h : xloadI i ls n st σ = some o) : ∃ o2, xloadI i l2 n s2 τ = some o2 ∧ sho m k σ τ o o2 := by
  unfold xloadI at h ⊢
  split at h
  · rename_i x hx
    obtain ⟨w, g1, g2⟩ := hl.2 n _ hx
    obtain rfl : w = .int x := g2
    simp only [g1]
    cases h
    exact ⟨_, rfl, _, _, _, rfl, hl, ⟨_, _, rfl, rfl, ht⟩, hs⟩
  · cases h
theorem sh_loadL (hl : shl m σ.2.1.1 ls l2) (ht : sht m σ.2.1.1 st s2) (hs : shs m k σ τ) (h : xloadL i ls n st σ = some o) : ∃ o2, xloadL i l2 n s2 τ = some o2 ∧ sho m k σ τ o o2 := by
  unfold xloadL at h ⊢
  split at h
  · rename_i x hx
    obtain ⟨w, g1, g2⟩ := hl.2 n _ hx
    obtain rfl : w = .long x := g2
    simp only [g1]
    cases h
    exact ⟨_, rfl, _, _, _, rfl, hl, ⟨_, _, rfl, rfl, ht⟩, hs⟩
  · cases h
theorem sh_loadA (hl : shl m σ.2.1.1 ls l2) (ht : sht m σ.2.1.1 st s2) (hs : shs m k σ τ) (h : xloadA i ls n st σ = some o) : ∃ o2, xloadA i l2 n s2 τ = some o2 ∧ sho m k σ τ o o2 := by
  unfold xloadA at h ⊢
  split at h
  · rename_i x hx
    obtain ⟨w, g1, b, rfl, g2⟩ := hl.2 n _ hx
    simp only [g1]
    cases h
    exact ⟨_, rfl, _, _, _, rfl, hl, ⟨_, _, rfl, ⟨b, rfl, g2⟩, ht⟩, hs⟩
  · cases h
theorem sh_storeI (hl : shl m σ.2.1.1 ls l2) (ht : sht m σ.2.1.1 st s2) (hs : shs m k σ τ) (h : xstoreI i ls n st σ = some o) : ∃ o2, xstoreI i l2 n s2 τ = some o2 ∧ sho m k σ τ o o2 := by
  unfold xstoreI at h
  split at h
  · rename_i x r
    split at h
    · rename_i hn
      obtain ⟨w, q, rfl, hw, hq⟩ := ht
      obtain rfl : w = .int x := hw
      cases h
      refine ⟨_, if_pos (by rw [hl.1]; exact hn), _, _, _, rfl, shl_set (shl_kill hl) rfl, hq, hs⟩
    · cases h
  · cases h
theorem sh_storeL (hl : shl m σ.2.1.1 ls l2) (ht : sht m σ.2.1.1 st s2) (hs : shs m k σ τ) (h : xstoreL i ls n st σ = some o) : ∃ o2, xstoreL i l2 n s2 τ = some o2 ∧ sho m k σ τ o o2 := by
  unfold xstoreL at h
  split at h
  · rename_i x r
    split at h
    · rename_i hn
      obtain ⟨w, q, rfl, hw, hq⟩ := ht
      obtain rfl : w = .long x := hw
      cases h
      refine ⟨_, if_pos (by rw [hl.1]; exact hn), _, _, _, rfl, shl_setn (shl_set (shl_kill hl) rfl), hq, hs⟩
    · cases h
  · cases h
theorem sh_storeA (hN : σ.2.1.1 + m ≤ 890000) (hl : shl m σ.2.1.1 ls l2) (ht : sht m σ.2.1.1 st s2) (hs : shs m k σ τ) (h : xstoreA i ls n st σ = some o) : ∃ o2, xstoreA i l2 n s2 τ = some o2 ∧ sho m k σ τ o o2 := by
  unfold xstoreA at h
  split at h
  · rename_i x r
    split at h
    · rename_i hn
      obtain ⟨w, q, rfl, ⟨b, rfl, g⟩, hq⟩ := ht
      cases h
      refine ⟨_, if_pos ⟨by rw [hl.1]; exact hn.1, (shs_in hN g hn.2).2⟩, _, _, _, rfl, shl_set (shl_kill hl) ⟨b, rfl, g⟩, hq, hs⟩
    · cases h
  · cases h
theorem sh_II {f : Int32 → Int32 → Int32} (hl : shl m σ.2.1.1 ls l2) (ht : sht m σ.2.1.1 st s2) (hs : shs m k σ τ) (h : xII f i ls st σ = some o) : ∃ o2, xII f i l2 s2 τ = some o2 ∧ sho m k σ τ o o2 := by
  unfold xII at h
  split at h
  · rename_i y x r
    obtain ⟨w, q, rfl, hw, w2, q2, rfl, hw2, hq⟩ := ht
    obtain rfl : w = .int y := hw
    obtain rfl : w2 = .int x := hw2
    cases h
    exact ⟨_, rfl, _, _, _, rfl, hl, ⟨_, _, rfl, rfl, hq⟩, hs⟩
  · cases h
theorem sh_LL {f : Int64 → Int64 → Int64} (hl : shl m σ.2.1.1 ls l2) (ht : sht m σ.2.1.1 st s2) (hs : shs m k σ τ) (h : xLL f i ls st σ = some o) : ∃ o2, xLL f i l2 s2 τ = some o2 ∧ sho m k σ τ o o2 := by
  unfold xLL at h
  split at h
  · rename_i y x r
    obtain ⟨w, q, rfl, hw, w2, q2, rfl, hw2, hq⟩ := ht
    obtain rfl : w = .long y := hw
    obtain rfl : w2 = .long x := hw2
    cases h
    exact ⟨_, rfl, _, _, _, rfl, hl, ⟨_, _, rfl, rfl, hq⟩, hs⟩
  · cases h
theorem sh_LI {f : Int64 → Int32 → Int64} (hl : shl m σ.2.1.1 ls l2) (ht : sht m σ.2.1.1 st s2) (hs : shs m k σ τ) (h : xLI f i ls st σ = some o) : ∃ o2, xLI f i l2 s2 τ = some o2 ∧ sho m k σ τ o o2 := by
  unfold xLI at h
  split at h
  · rename_i y x r
    obtain ⟨w, q, rfl, hw, w2, q2, rfl, hw2, hq⟩ := ht
    obtain rfl : w = .int y := hw
    obtain rfl : w2 = .long x := hw2
    cases h
    exact ⟨_, rfl, _, _, _, rfl, hl, ⟨_, _, rfl, rfl, hq⟩, hs⟩
  · cases h
theorem sh_if {c : Int32 → Bool} {t : Nat} (hl : shl m σ.2.1.1 ls l2) (ht : sht m σ.2.1.1 st s2) (hs : shs m k σ τ) (h : xIf c i t ls st σ = some o) : ∃ o2, xIf c i t l2 s2 τ = some o2 ∧ sho m k σ τ o o2 := by
  unfold xIf at h
  split at h
  · rename_i x r
    obtain ⟨w, q, rfl, hw, hq⟩ := ht
    obtain rfl : w = .int x := hw
    split at h <;> rename_i hc
    · cases h
      exact ⟨_, if_pos hc, _, _, _, rfl, hl, hq, hs⟩
    · cases h
      exact ⟨_, if_neg hc, _, _, _, rfl, hl, hq, hs⟩
  · cases h
theorem sh_ic {c : Int32 → Int32 → Bool} {t : Nat} (hl : shl m σ.2.1.1 ls l2) (ht : sht m σ.2.1.1 st s2) (hs : shs m k σ τ) (h : xIc c i t ls st σ = some o) : ∃ o2, xIc c i t l2 s2 τ = some o2 ∧ sho m k σ τ o o2 := by
  unfold xIc at h
  split at h
  · rename_i y x r
    obtain ⟨w, q, rfl, hw, w2, q2, rfl, hw2, hq⟩ := ht
    obtain rfl : w = .int y := hw
    obtain rfl : w2 = .int x := hw2
    split at h <;> rename_i hc
    · cases h
      exact ⟨_, if_pos hc, _, _, _, rfl, hl, hq, hs⟩
    · cases h
      exact ⟨_, if_neg hc, _, _, _, rfl, hl, hq, hs⟩
  · cases h
theorem sh_aldI {t : Nat} (hN : σ.2.1.1 + m ≤ 890000) (hl : shl m σ.2.1.1 ls l2) (ht : sht m σ.2.1.1 st s2) (hs : shs m k σ τ) (h : xaldI t i ls st σ = some o) : ∃ o2, xaldI t i l2 s2 τ = some o2 ∧ sho m k σ τ o o2 := by
  unfold xaldI at h
  split at h
  · rename_i j a r
    split at h
    · rename_i t' n f hrd
      split at h
      · rename_i hc
        obtain ⟨w, q, rfl, hw, w2, q2, rfl, ⟨b, rfl, g⟩, hq⟩ := ht
        obtain rfl : w = .int j := hw
        obtain ⟨e2, g1, g2⟩ := shs_rd hs hN g hrd
        obtain rfl : e2 = _ := g2
        cases h
        refine ⟨_, by unfold xaldI; simp only [g1]; exact if_pos hc, _, _, _, rfl, hl, ⟨_, _, rfl, rfl, hq⟩, hs⟩
      · cases h
    · cases h
  · cases h
theorem sh_aldB (hN : σ.2.1.1 + m ≤ 890000) (hl : shl m σ.2.1.1 ls l2) (ht : sht m σ.2.1.1 st s2) (hs : shs m k σ τ) (h : xaldB i ls st σ = some o) : ∃ o2, xaldB i l2 s2 τ = some o2 ∧ sho m k σ τ o o2 := by
  unfold xaldB at h
  split at h
  · rename_i j a r
    split at h
    · rename_i t' n f hrd
      split at h
      · rename_i hc
        obtain ⟨w, q, rfl, hw, w2, q2, rfl, ⟨b, rfl, g⟩, hq⟩ := ht
        obtain rfl : w = .int j := hw
        obtain ⟨e2, g1, g2⟩ := shs_rd hs hN g hrd
        obtain rfl : e2 = _ := g2
        cases h
        refine ⟨_, by unfold xaldB; simp only [g1]; exact if_pos hc, _, _, _, rfl, hl, ⟨_, _, rfl, rfl, hq⟩, hs⟩
      · cases h
    · cases h
  · cases h
theorem sh_aldA (hN : σ.2.1.1 + m ≤ 890000) (hl : shl m σ.2.1.1 ls l2) (ht : sht m σ.2.1.1 st s2) (hs : shs m k σ τ) (h : xaldA i ls st σ = some o) : ∃ o2, xaldA i l2 s2 τ = some o2 ∧ sho m k σ τ o o2 := by
  unfold xaldA at h
  split at h
  · rename_i j a r
    split at h
    · rename_i t' n f hrd
      split at h
      · rename_i hc
        obtain ⟨w, q, rfl, hw, w2, q2, rfl, ⟨b, rfl, g⟩, hq⟩ := ht
        obtain rfl : w = .int j := hw
        obtain ⟨e2, g1, f2, rfl, g2⟩ := shs_rd hs hN g hrd
        have hab : (@LT.lt Nat _ a 1000000 → b < 1000000) ∧ (@LE.le Nat _ 1000000 a → 1000000 ≤ b) := by
          rcases g with ⟨p1, p2⟩ | ⟨p1, p2⟩
          · exact ⟨fun _ => by omega, fun q => by have q' : @LE.le Nat _ 1000000 a := q; omega⟩
          · exact ⟨fun q => by omega, fun _ => by omega⟩
        have hc2 : ((4 ≤ t' ∧ t' ≤ 8 ∧ b < 1000000) ∨ (t' = 9 ∧ 1000000 ≤ b)) ∧ ¬ (j < 0 ∨ n ≤ j.toNatClampNeg) := by
          refine ⟨?_, hc.2⟩
          rcases hc.1 with ⟨p1, p2, p3⟩ | ⟨p1, p2⟩
          · exact Or.inl ⟨p1, p2, hab.1 p3⟩
          · exact Or.inr ⟨p1, hab.2 p2⟩
        split at h
        · rename_i c hfc
          split at h
          · rename_i hc3
            obtain ⟨c2, g3, g4⟩ := (g2 j.toNatClampNeg).2 c hfc
            have hc4 : c2 < 1000000 ∨ 1000000 ≤ b := by
              rcases hc3 with p1 | p1
              · exact Or.inl (shs_in hN g4 p1).2
              · exact Or.inr (hab.2 p1)
            cases h
            refine ⟨_, by unfold xaldA; simp only [g1]; rw [if_pos hc2]; simp only [g3]; exact if_pos hc4, _, _, _, rfl, hl, ⟨_, _, rfl, ⟨c2, rfl, g4⟩, hq⟩, hs⟩
          · cases h
        · rename_i hfc
          split at h
          · rename_i hc3
            have g3 := (g2 j.toNatClampNeg).1 hfc
            cases h
            refine ⟨_, by unfold xaldA; simp only [g1]; rw [if_pos hc2]; simp only [g3]; exact if_pos (hab.1 hc3), _, _, _, rfl, hl, ⟨_, _, rfl, rfl, hq⟩, hs⟩
          · cases h
      · cases h
    · cases h
  · cases h
theorem sh_astI (hN : σ.2.1.1 + m ≤ 890000) (hl : shl m σ.2.1.1 ls l2) (ht : sht m σ.2.1.1 st s2) (hs : shs m k σ τ) (h : xastI i ls st σ = some o) : ∃ o2, xastI i l2 s2 τ = some o2 ∧ sho m k σ τ o o2 := by
  unfold xastI at h
  split at h
  · rename_i x j a r
    split at h
    · rename_i ha
      split at h
      · rename_i t' n f hrd
        split at h
        · rename_i hc
          obtain ⟨w, q, rfl, hw, w2, q2, rfl, hw2, w3, q3, rfl, ⟨b, rfl, g⟩, hq⟩ := ht
          obtain rfl : w = .int x := hw
          obtain rfl : w2 = .int j := hw2
          obtain ⟨p1, p2⟩ := shs_in hN g ha
          obtain ⟨p3, e2, g1, g2⟩ := hs.1 a _ hrd
          obtain rfl : e2 = _ := g2
          subst p1
          cases h
          refine ⟨_, by unfold xastI; simp only [g1, if_pos p2]; exact if_pos hc, _, _, _, rfl, hl, hq, shs_wr hs p3 rfl⟩
        · cases h
      · cases h
    · cases h
  · cases h
theorem sh_astB (hN : σ.2.1.1 + m ≤ 890000) (hl : shl m σ.2.1.1 ls l2) (ht : sht m σ.2.1.1 st s2) (hs : shs m k σ τ) (h : xastB i ls st σ = some o) : ∃ o2, xastB i l2 s2 τ = some o2 ∧ sho m k σ τ o o2 := by
  unfold xastB at h
  split at h
  · rename_i x j a r
    split at h
    · rename_i ha
      split at h
      · rename_i t' n f hrd
        split at h
        · rename_i hc
          split at h
          · rename_i hc1
            obtain ⟨w, q, rfl, hw, w2, q2, rfl, hw2, w3, q3, rfl, ⟨b, rfl, g⟩, hq⟩ := ht
            obtain rfl : w = .int x := hw
            obtain rfl : w2 = .int j := hw2
            obtain ⟨p1, p2⟩ := shs_in hN g ha
            obtain ⟨p3, e2, g1, g2⟩ := hs.1 a _ hrd
            obtain rfl : e2 = _ := g2
            subst p1
            cases h
            refine ⟨_, by unfold xastB; simp only [g1, if_pos p2]; rw [if_pos hc, if_pos hc1], _, _, _, rfl, hl, hq, shs_wr hs p3 rfl⟩
          · cases h
        · cases h
      · cases h
    · cases h
  · cases h
theorem she_up {m N : Nat} {f f2 : Nat → Option Nat} {j a b : Nat} (h : ∀ j, (f j = none → f2 j = none) ∧ ∀ b, f j = some b → ∃ b2, f2 j = some b2 ∧ shr m N b b2) (g : shr m N a b) : ∀ z, (va_up f j (some a) z = none → va_up f2 j (some b) z = none) ∧ ∀ c, va_up f j (some a) z = some c → ∃ b2, va_up f2 j (some b) z = some b2 ∧ shr m N c b2 := by
  intro z
  unfold va_up
  split
  · refine ⟨fun q => (by cases q), fun c hc => ?_⟩
    cases hc
    exact ⟨b, rfl, g⟩
  · exact h z
theorem she_upn {m N : Nat} {f f2 : Nat → Option Nat} {j : Nat} (h : ∀ j, (f j = none → f2 j = none) ∧ ∀ b, f j = some b → ∃ b2, f2 j = some b2 ∧ shr m N b b2) : ∀ z, (va_up f j none z = none → va_up f2 j none z = none) ∧ ∀ c, va_up f j none z = some c → ∃ b2, va_up f2 j none z = some b2 ∧ shr m N c b2 := by
  intro z
  unfold va_up
  split
  · exact ⟨fun _ => rfl, fun c hc => by cases hc⟩
  · exact h z
theorem sh_astA (hN : σ.2.1.1 + m ≤ 890000) (hl : shl m σ.2.1.1 ls l2) (ht : sht m σ.2.1.1 st s2) (hs : shs m k σ τ) (h : xastA i ls st σ = some o) : ∃ o2, xastA i l2 s2 τ = some o2 ∧ sho m k σ τ o o2 := by
  unfold xastA at h
  split at h
  · rename_i v j a r
    split at h
    · rename_i hav
      obtain ⟨w, q, rfl, ⟨v2, rfl, gv⟩, w2, q2, rfl, hw2, w3, q3, rfl, ⟨b, rfl, g⟩, hq⟩ := ht
      obtain rfl : w2 = .int j := hw2
      obtain ⟨p1, p2⟩ := shs_in hN g hav.1
      obtain ⟨p4, p5⟩ := shs_in hN gv hav.2
      subst p1
      subst p4
      have hav2 : a + m < 1000000 ∧ v + m < 1000000 := ⟨p2, p5⟩
      split at h
      · rename_i t' n f c fs hrd hrv
        split at h
        · rename_i hc
          obtain ⟨p3, e2, g1, f2, rfl, g2⟩ := hs.1 a _ hrd
          obtain ⟨-, e3, g3, gs, rfl, -, -⟩ := hs.1 v _ hrv
          cases h
          refine ⟨_, by unfold xastA; simp only [g1, g3, if_pos hav2]; exact if_pos hc, _, _, _, rfl, hl, hq, shs_wr hs p3 ⟨_, rfl, she_up g2 gv⟩⟩
        · cases h
      · rename_i t' n f x hrd hrv
        split at h
        · rename_i hc
          obtain ⟨p3, e2, g1, f2, rfl, g2⟩ := hs.1 a _ hrd
          obtain ⟨-, e3, g3, g4⟩ := hs.1 v _ hrv
          have g5 : ∃ x2, e3 = .inl (0, x2) := by
            obtain ⟨n2, y | y | y | y | y⟩ := x
            · exact ⟨_, g4⟩
            · exact ⟨_, g4⟩
            · exact ⟨_, g4⟩
            · exact ⟨_, g4⟩
            · obtain ⟨y2, g6, -⟩ := g4
              exact ⟨_, g6⟩
          obtain ⟨x2, rfl⟩ := g5
          cases h
          refine ⟨_, by unfold xastA; simp only [g1, g3, if_pos hav2]; exact if_pos hc, _, _, _, rfl, hl, hq, shs_wr hs p3 ⟨_, rfl, she_up g2 gv⟩⟩
        · cases h
      · cases h
    · cases h
  · rename_i j a r
    split at h
    · rename_i ha
      obtain ⟨w, q, rfl, hw, w2, q2, rfl, hw2, w3, q3, rfl, ⟨b, rfl, g⟩, hq⟩ := ht
      obtain rfl : w = .null := hw
      obtain rfl : w2 = .int j := hw2
      obtain ⟨p1, p2⟩ := shs_in hN g ha
      subst p1
      split at h
      · rename_i t' n f hrd
        split at h
        · rename_i hc
          obtain ⟨p3, e2, g1, f2, rfl, g2⟩ := hs.1 a _ hrd
          cases h
          refine ⟨_, by unfold xastA; simp only [g1, if_pos p2]; exact if_pos hc, _, _, _, rfl, hl, hq, shs_wr hs p3 ⟨_, rfl, she_upn g2⟩⟩
        · cases h
      · cases h
    · cases h
  · cases h
theorem sh_get {c j : Nat} (hN : σ.2.1.1 + m ≤ 890000) (hl : shl m σ.2.1.1 ls l2) (ht : sht m σ.2.1.1 st s2) (hs : shs m k σ τ) (h : xget c j i ls st σ = some o) : ∃ o2, xget c j i l2 s2 τ = some o2 ∧ sho m k σ τ o o2 := by
  unfold xget at h
  split at h
  · rename_i a r
    split at h
    · rename_i c' fs hrd
      split at h
      · rename_i hc
        split at h
        · rename_i v hv
          obtain ⟨w, q, rfl, ⟨b, rfl, g⟩, hq⟩ := ht
          obtain ⟨e2, g1, gs, rfl, g2, g3⟩ := shs_rd hs hN g hrd
          obtain ⟨w2, g4, g5⟩ := g3 j v hv
          cases h
          refine ⟨_, by unfold xget; simp only [g1]; rw [if_pos hc]; simp only [g4], _, _, _, rfl, hl, ⟨_, _, rfl, g5, hq⟩, hs⟩
        · cases h
      · cases h
    · cases h
  · cases h
theorem shv_nar {N : Nat} {ty : FieldType} {v w : Value} (g : shv m N v w) (h : narrow ty v = v ∧ fits ty v = true) : narrow ty w = w ∧ fits ty w = true := by
  cases v <;> first | (obtain rfl := g; exact h) | skip
  obtain ⟨b, rfl, -⟩ := g
  cases ty <;> simp_all [narrow, fits]
theorem sh_put {c j : Nat} (hN : σ.2.1.1 + m ≤ 890000) (hl : shl m σ.2.1.1 ls l2) (ht : sht m σ.2.1.1 st s2) (hs : shs m k σ τ) (h : xput c j i ls st σ = some o) : ∃ o2, xput c j i l2 s2 τ = some o2 ∧ sho m k σ τ o o2 := by
  unfold xput at h
  split at h
  · rename_i v a r
    split at h
    · rename_i ha
      split at h
      · rename_i c' fs hrd
        split at h
        · rename_i hc
          obtain ⟨w, q, rfl, gv, w3, q3, rfl, ⟨b, rfl, g⟩, hq⟩ := ht
          obtain ⟨p1, p2⟩ := shs_in hN g ha
          subst p1
          obtain ⟨p3, e2, g1, gs, rfl, g2, g3⟩ := hs.1 a _ hrd
          obtain ⟨c1, c2, c3, c4⟩ := hc
          obtain ⟨c5, c6⟩ := shv_nar gv ⟨c3, c4⟩
          cases h
          refine ⟨_, by unfold xput; simp only [g1, if_pos p2]; exact if_pos ⟨c1, by rw [g2]; exact c2, c5, c6⟩, _, _, _, rfl, hl, hq, shs_wr hs p3 ⟨_, rfl, by simp [g2], fun z u hu => ?_⟩⟩
          rw [List.getElem?_set] at hu
          rw [List.getElem?_set]
          by_cases hz : j = z
          · subst hz
            rw [if_pos rfl, if_pos c2] at hu
            cases hu
            exact ⟨w, by rw [if_pos rfl, if_pos (by rw [g2]; exact c2)], gv⟩
          · rw [if_neg hz] at hu ⊢
            exact g3 z u hu
        · cases h
      · cases h
    · cases h
  · cases h
theorem sh_alloc {e e2 : xE} (hN : σ.2.1.1 + m ≤ 890000) (hl : shl m σ.2.1.1 ls l2) (ht : sht m σ.2.1.1 st s2) (hs : shs m k σ τ) (g : she m (σ.2.1.1 + 1) e e2) (h : xalloc i ls st σ e n = some o) : ∃ o2, xalloc i l2 s2 τ e2 n = some o2 ∧ sho m k σ τ o o2 := by
  unfold xalloc at h
  split at h
  · cases h
    refine ⟨_, by unfold xalloc; exact if_pos (by rw [hs.2.1]; omega), _, _, _, rfl, shl_le (by show σ.2.1.1 ≤ σ.2.1.1 + 1; omega) hl, ⟨_, _, rfl, ⟨τ.2.1.1, rfl, Or.inl ⟨by show σ.2.1.1 < σ.2.1.1 + 1; omega, hs.2.1⟩⟩, sht_le (by show σ.2.1.1 ≤ σ.2.1.1 + 1; omega) _ _ ht⟩, shs_new hs g⟩
  · cases h
end
section
variable {m k : Nat} {σ τ : xS} {i : Nat} {ls l2 : xL} {st s2 : List Value} {o : xA} {n : Nat}
theorem sh_copy (hN : σ.2.1.1 + m ≤ 890000) (hl : shl m σ.2.1.1 ls l2) (ht : sht m σ.2.1.1 st s2) (hs : shs m k σ τ) (h : xcopy i ls st σ = some o) : ∃ o2, xcopy i l2 s2 τ = some o2 ∧ sho m k σ τ o o2 := by
  unfold xcopy at h
  split at h
  · rename_i n dp a sp b r
    split at h
    · rename_i ha
      split at h
      · rename_i t0 n0 f t1 n1 g hrb hra
        split at h
        · rename_i hc
          obtain ⟨w, q, rfl, hw, w2, q2, rfl, hw2, w3, q3, rfl, ⟨a2, rfl, ga⟩, w4, q4, rfl, hw4, w5, q5, rfl, ⟨b2, rfl, gb⟩, hq⟩ := ht
          obtain rfl : w = .int n := hw
          obtain rfl : w2 = .int dp := hw2
          obtain rfl : w4 = .int sp := hw4
          obtain ⟨p1, p2⟩ := shs_in hN ga ha
          subst p1
          obtain ⟨p3, e2, g1, g2⟩ := hs.1 a _ hra
          obtain rfl : e2 = _ := g2
          obtain ⟨e3, g3, g4⟩ := shs_rd hs hN gb hrb
          obtain rfl : e3 = _ := g4
          obtain ⟨c1, c2, c3, c4, c5, c6, c7, c8, c9⟩ := hc
          have c2' : (t0 = 0 ∧ b2 < 1000000) ∨ t0 = 1 := by
            rcases c2 with ⟨d1, d2⟩ | d1
            · exact Or.inl ⟨d1, (shs_in hN gb d2).2⟩
            · exact Or.inr d1
          cases h
          refine ⟨_, by unfold xcopy; simp only [g1, g3, if_pos p2]; exact if_pos ⟨c1, c2', c3, c4, c5, c6, c7, by rw [sht_cat hq]; exact c8, c9⟩, _, _, _, rfl, hl, hq, shs_wr hs p3 rfl⟩
        · cases h
      · cases h
    · cases h
  · cases h
theorem sh_clone {z : Nat} (hN : σ.2.1.1 + m ≤ 890000) (hl : shl m σ.2.1.1 ls l2) (ht : sht m σ.2.1.1 st s2) (hs : shs m k σ τ) (h : xclone z i ls st σ = some o) : ∃ o2, xclone z i l2 s2 τ = some o2 ∧ sho m k σ τ o o2 := by
  unfold xclone at h
  split at h
  · rename_i a r
    split at h
    · rename_i ha
      split at h
      · rename_i t n f hra
        split at h
        · rename_i hc
          obtain ⟨w, q, rfl, ⟨b, rfl, g⟩, hq⟩ := ht
          obtain ⟨p1, p2⟩ := shs_in hN g ha.1
          subst p1
          obtain ⟨p3, e2, g1, g2⟩ := hs.1 a _ hra
          obtain rfl : e2 = _ := g2
          obtain ⟨o2, g3, g4⟩ := sh_alloc hN hl hq hs (show she m (σ.2.1.1 + 1) (.inl (t, (n, .inl f))) (.inl (t, (n, .inl f))) from rfl) h
          exact ⟨o2, by unfold xclone; simp only [g1]; rw [if_pos ⟨p2, by rw [sht_cat hq]; exact ha.2⟩, if_pos hc]; exact g3, g4⟩
        · cases h
      · cases h
    · cases h
  · cases h
theorem sh_call {k' na kind : Nat} (hN : σ.2.1.1 + m ≤ 890000) (ht : sht m σ.2.1.1 st s2) (hs : shs m k σ τ) (h : xcall k' na kind st σ = some o) : ∃ o2, xcall k' na kind s2 τ = some o2 ∧ sho m k σ τ o o2 := by
  unfold xcall at h
  have hd := sht_drop na ht
  have hr := sht_rev (sht_take na ht)
  split at h
  · rename_i hc
    have hc2 : na ≤ s2.length ∧ xcat (s2.drop na) ≤ 8 ∧ (xargs (s2.take na).reverse).length ≤ xmlf k' := ⟨by rw [sht_len ht]; exact hc.1, by rw [sht_cat hd]; exact hc.2.1, by rw [(xargs_sh hr).1]; exact hc.2.2⟩
    unfold xcall
    rw [if_pos hc2]
    split at h
    · rename_i hk
      rw [if_pos hk]
      cases h
      exact ⟨_, rfl, _, _, rfl, hr, hd⟩
    · rename_i hk
      rw [if_neg hk]
      split at h
      · rename_i a as hta
        rw [hta] at hr
        obtain ⟨w, q, hq0, ⟨b, rfl, g⟩, hq⟩ := hr
        split at h
        · rename_i c fs hrd
          split at h
          · rename_i hcc
            obtain ⟨e2, g1, gs, rfl, -, -⟩ := shs_rd hs hN g hrd
            cases h
            refine ⟨_, by rw [hq0]; simp only [g1]; exact if_pos hcc, _, _, rfl, ⟨_, _, rfl, ⟨b, rfl, g⟩, hq⟩, hd⟩
          · cases h
        · cases h
      · cases h
  · cases h
theorem sh_inv {aux : List Int} (hN : σ.2.1.1 + m ≤ 890000) (hl : shl m σ.2.1.1 ls l2) (ht : sht m σ.2.1.1 st s2) (hs : shs m k σ τ) (h : xinv i aux ls st σ = some o) : ∃ o2, xinv i aux l2 s2 τ = some o2 ∧ sho m k σ τ o o2 := by
  unfold xinv at h ⊢
  split at h
  · rename_i k' na kind pl
    by_cases c20 : kind = 20
    · rw [if_pos c20] at h ⊢
      split at h
      · rename_i a r
        split at h
        · rename_i hc
          obtain ⟨w, q, rfl, ⟨b, rfl, g⟩, hq⟩ := ht
          cases h
          exact ⟨_, if_pos ⟨(shs_in hN g hc.1).2, by rw [sht_cat hq]; exact hc.2⟩, _, _, _, rfl, hl, hq, hs⟩
        · cases h
      · cases h
    rw [if_neg c20] at h ⊢
    by_cases c21 : kind = 21
    · rw [if_pos c21] at h ⊢
      exact sh_copy hN hl ht hs h
    rw [if_neg c21] at h ⊢
    by_cases c22 : kind = 22
    · rw [if_pos c22] at h ⊢
      exact sh_clone hN hl ht hs h
    rw [if_neg c22] at h ⊢
    by_cases c24 : kind = 24
    · rw [if_pos c24] at h ⊢
      split at h
      · rename_i y x r
        split at h
        · rename_i hc
          obtain ⟨w, q, rfl, hw, w2, q2, rfl, hw2, hq⟩ := ht
          obtain rfl : w = .int y := hw
          obtain rfl : w2 = .int x := hw2
          cases h
          exact ⟨_, if_pos (by rw [sht_cat hq]; exact hc), _, _, _, rfl, hl, ⟨_, _, rfl, rfl, hq⟩, hs⟩
        · cases h
      · cases h
    rw [if_neg c24] at h ⊢
    by_cases c25 : kind = 25
    · rw [if_pos c25] at h ⊢
      split at h
      · rename_i y x r
        split at h
        · rename_i hc
          obtain ⟨w, q, rfl, hw, w2, q2, rfl, hw2, hq⟩ := ht
          obtain rfl : w = .int y := hw
          obtain rfl : w2 = .int x := hw2
          cases h
          exact ⟨_, if_pos (by rw [sht_cat hq]; exact hc), _, _, _, rfl, hl, ⟨_, _, rfl, rfl, hq⟩, hs⟩
        · cases h
      · cases h
    rw [if_neg c25] at h ⊢
    by_cases c26 : kind = 26
    · rw [if_pos c26] at h ⊢
      split at h
      · rename_i y x r
        split at h
        · rename_i hc
          obtain ⟨w, q, rfl, hw, w2, q2, rfl, hw2, hq⟩ := ht
          obtain rfl : w = .long y := hw
          obtain rfl : w2 = .long x := hw2
          cases h
          exact ⟨_, if_pos (by rw [sht_cat hq]; exact hc), _, _, _, rfl, hl, ⟨_, _, rfl, rfl, hq⟩, hs⟩
        · cases h
      · cases h
    rw [if_neg c26] at h ⊢
    by_cases c27 : kind = 27
    · rw [if_pos c27] at h ⊢
      split at h
      · rename_i y x r
        split at h
        · rename_i hc
          obtain ⟨w, q, rfl, hw, w2, q2, rfl, hw2, hq⟩ := ht
          obtain rfl : w = .long y := hw
          obtain rfl : w2 = .long x := hw2
          cases h
          exact ⟨_, if_pos (by rw [sht_cat hq]; exact hc), _, _, _, rfl, hl, ⟨_, _, rfl, rfl, hq⟩, hs⟩
        · cases h
      · cases h
    rw [if_neg c27] at h ⊢
    split at h
    · rename_i c9
      rw [if_pos c9]
      exact sh_call hN ht hs h
    · cases h
  · cases h
theorem she_def {N c : Nat} : she m N (.inr (c, xdef c)) (.inr (c, xdef c)) := by
  refine ⟨_, rfl, rfl, fun i v hv => ⟨v, hv, ?_⟩⟩
  have : ∃ ty, v = defaultValue ty := by
    unfold xdef at hv
    rw [List.getElem?_map] at hv
    obtain ⟨j, -, hj⟩ := Option.map_eq_some_iff.mp hv
    exact ⟨_, hj.symm⟩
  obtain ⟨ty, rfl⟩ := this
  cases ty <;> exact rfl
theorem sh_iret {κ : Nat} (ht : sht m σ.2.1.1 st s2) (h : xret κ st = some o) : ∃ o2, xret κ s2 = some o2 ∧ sho m k σ τ o o2 := by
  unfold xret at h
  split at h
  · rename_i v
    split at h
    · rename_i ty hty
      split at h
      · rename_i hn
        obtain ⟨w, q, rfl, hw, hq⟩ := ht
        obtain rfl : w = .int v := hw
        obtain rfl : q = [] := hq
        cases h
        exact ⟨_, by unfold xret; simp only [hty]; exact if_pos hn, _, rfl, rfl⟩
      · cases h
    · cases h
  · cases h
set_option maxHeartbeats 4000000 in
theorem shstp {κ : Nat} {ins : Instr} {aux : List Int} (hN : σ.2.1.1 + m ≤ 890000) (hl : shl m σ.2.1.1 ls l2) (ht : sht m σ.2.1.1 st s2) (hs : shs m k σ τ) (h : stp κ i ins aux ls st σ = some o) : ∃ o2, stp κ i ins aux l2 s2 τ = some o2 ∧ sho m k σ τ o o2 := by
  have hc8 : ∀ {st s2 : List Value}, sht m σ.2.1.1 st s2 → xcat st ≤ 8 → xcat s2 ≤ 8 := fun h1 h2 => by rw [sht_cat h1]; exact h2
  cases ins <;> first
    | (cases h; done)
    | exact sh_push hl ht hs (by exact rfl) h
    | exact sh_loadI hl ht hs h
    | exact sh_loadL hl ht hs h
    | exact sh_loadA hl ht hs h
    | exact sh_storeI hl ht hs h
    | exact sh_storeL hl ht hs h
    | exact sh_storeA hN hl ht hs h
    | exact sh_II hl ht hs h
    | exact sh_LL hl ht hs h
    | exact sh_LI hl ht hs h
    | exact sh_aldI hN hl ht hs h
    | exact sh_aldB hN hl ht hs h
    | exact sh_aldA hN hl ht hs h
    | exact sh_astI hN hl ht hs h
    | exact sh_astB hN hl ht hs h
    | exact sh_astA hN hl ht hs h
    | exact sh_inv hN hl ht hs h
    | exact sh_iret ht h
    | exact sh_if hl ht hs h
    | exact sh_ic hl ht hs h
    | skip
  case ldc n =>
    simp only [stp] at h ⊢
    split at h
    · split at h <;> rename_i h0
      · rw [if_pos h0]; exact sh_push hl ht hs (by exact rfl) h
      · rw [if_neg h0]; exact sh_push hl ht hs (by exact ⟨_, rfl, Or.inr ⟨by omega, rfl⟩⟩) h
    · cases h
  case ldc_w n =>
    simp only [stp] at h ⊢
    split at h
    · split at h <;> rename_i h0
      · rw [if_pos h0]; exact sh_push hl ht hs (by exact rfl) h
      · rw [if_neg h0]; exact sh_push hl ht hs (by exact ⟨_, rfl, Or.inr ⟨by omega, rfl⟩⟩) h
    · cases h
  case ldc2_w n =>
    simp only [stp] at h ⊢
    split at h
    · exact sh_push hl ht hs (by exact rfl) h
    · cases h
  case getstatic n =>
    simp only [stp] at h ⊢
    split at h
    · rename_i t a b
      by_cases h0 : t = 0
      · rw [if_pos h0] at h ⊢; exact sh_push hl ht hs (by exact ⟨_, rfl, Or.inr ⟨by decide, rfl⟩⟩) h
      rw [if_neg h0] at h ⊢
      by_cases h1 : t = 1
      · rw [if_pos h1] at h ⊢; exact sh_push hl ht hs (by exact rfl) h
      rw [if_neg h1] at h ⊢
      by_cases h2 : t = 2
      · rw [if_pos h2] at h ⊢; exact sh_push hl ht hs (by exact ⟨_, rfl, Or.inr ⟨by decide, rfl⟩⟩) h
      rw [if_neg h2] at h ⊢
      by_cases h3 : 3 ≤ t ∧ t < 8
      · rw [if_pos h3] at h ⊢; exact sh_push hl ht hs (by exact ⟨_, rfl, Or.inr ⟨by omega, rfl⟩⟩) h
      · rw [if_neg h3] at h; cases h
    · cases h
  case iinc n z =>
    simp only [stp] at h ⊢
    split at h
    · rename_i x hx
      obtain ⟨w, g1, g2⟩ := hl.2 n _ hx
      obtain rfl : w = .int x := g2
      simp only [g1]
      cases h
      exact ⟨_, rfl, _, _, _, rfl, shl_set (shl_kill hl) rfl, ht, hs⟩
    · cases h
  case idiv =>
    simp only [stp] at h
    split at h
    · rename_i y x r
      split at h
      · rename_i hy
        obtain ⟨w, q, rfl, hw, w2, q2, rfl, hw2, hq⟩ := ht
        obtain rfl : w = .int y := hw
        obtain rfl : w2 = .int x := hw2
        cases h
        exact ⟨_, if_pos hy, _, _, _, rfl, hl, ⟨_, _, rfl, rfl, hq⟩, hs⟩
      · cases h
    · cases h
  case irem =>
    simp only [stp] at h
    split at h
    · rename_i y x r
      split at h
      · rename_i hy
        obtain ⟨w, q, rfl, hw, w2, q2, rfl, hw2, hq⟩ := ht
        obtain rfl : w = .int y := hw
        obtain rfl : w2 = .int x := hw2
        cases h
        exact ⟨_, if_pos hy, _, _, _, rfl, hl, ⟨_, _, rfl, rfl, hq⟩, hs⟩
      · cases h
    · cases h
  case ldiv =>
    simp only [stp] at h
    split at h
    · rename_i y x r
      split at h
      · rename_i hy
        obtain ⟨w, q, rfl, hw, w2, q2, rfl, hw2, hq⟩ := ht
        obtain rfl : w = .long y := hw
        obtain rfl : w2 = .long x := hw2
        cases h
        exact ⟨_, if_pos hy, _, _, _, rfl, hl, ⟨_, _, rfl, rfl, hq⟩, hs⟩
      · cases h
    · cases h
  case lcmp =>
    simp only [stp] at h
    split at h
    · rename_i y x r
      obtain ⟨w, q, rfl, hw, w2, q2, rfl, hw2, hq⟩ := ht
      obtain rfl : w = .long y := hw
      obtain rfl : w2 = .long x := hw2
      cases h
      exact ⟨_, rfl, _, _, _, rfl, hl, ⟨_, _, rfl, rfl, hq⟩, hs⟩
    · cases h
  case ineg =>
    simp only [stp] at h
    split at h
    · rename_i x r
      obtain ⟨w, q, rfl, hw, hq⟩ := ht
      obtain rfl : w = .int x := hw
      cases h
      exact ⟨_, rfl, _, _, _, rfl, hl, ⟨_, _, rfl, rfl, hq⟩, hs⟩
    · cases h
  case i2l =>
    simp only [stp] at h
    split at h
    · rename_i x r
      obtain ⟨w, q, rfl, hw, hq⟩ := ht
      obtain rfl : w = .int x := hw
      cases h
      exact ⟨_, rfl, _, _, _, rfl, hl, ⟨_, _, rfl, rfl, hq⟩, hs⟩
    · cases h
  case l2i =>
    simp only [stp] at h
    split at h
    · rename_i x r
      obtain ⟨w, q, rfl, hw, hq⟩ := ht
      obtain rfl : w = .long x := hw
      cases h
      exact ⟨_, rfl, _, _, _, rfl, hl, ⟨_, _, rfl, rfl, hq⟩, hs⟩
    · cases h
  case i2b =>
    simp only [stp] at h
    split at h
    · rename_i x r
      obtain ⟨w, q, rfl, hw, hq⟩ := ht
      obtain rfl : w = .int x := hw
      cases h
      exact ⟨_, rfl, _, _, _, rfl, hl, ⟨_, _, rfl, rfl, hq⟩, hs⟩
    · cases h
  case i2c =>
    simp only [stp] at h
    split at h
    · rename_i x r
      obtain ⟨w, q, rfl, hw, hq⟩ := ht
      obtain rfl : w = .int x := hw
      cases h
      exact ⟨_, rfl, _, _, _, rfl, hl, ⟨_, _, rfl, rfl, hq⟩, hs⟩
    · cases h
  case dup =>
    simp only [stp] at h
    split at h
    · rename_i v r
      split at h
      · rename_i hv
        obtain ⟨w, q, rfl, hw, hq⟩ := ht
        cases h
        exact ⟨_, if_pos (by rw [shv_cat hw]; exact hv), _, _, _, rfl, hl, ⟨_, _, rfl, hw, _, _, rfl, hw, hq⟩, hs⟩
      · cases h
    · cases h
  case pop =>
    simp only [stp] at h
    split at h
    · rename_i v r
      split at h
      · rename_i hv
        obtain ⟨w, q, rfl, hw, hq⟩ := ht
        cases h
        exact ⟨_, if_pos (by rw [shv_cat hw]; exact hv), _, _, _, rfl, hl, hq, hs⟩
      · cases h
    · cases h
  case dup2 =>
    simp only [stp] at h
    split at h
    · rename_i v u r
      split at h
      · rename_i hv
        obtain ⟨w, q, rfl, hw, w2, q2, rfl, hw2, hq⟩ := ht
        cases h
        exact ⟨_, if_pos ⟨by rw [shv_cat hw]; exact hv.1, by rw [shv_cat hw2]; exact hv.2⟩, _, _, _, rfl, hl, ⟨_, _, rfl, hw, _, _, rfl, hw2, _, _, rfl, hw, _, _, rfl, hw2, hq⟩, hs⟩
      · cases h
    · cases h
  case goto z =>
    simp only [stp] at h
    cases h
    exact ⟨_, rfl, _, _, _, rfl, hl, ht, hs⟩
  case ifnull z =>
    simp only [stp] at h
    split at h
    · rename_i r
      obtain ⟨w, q, rfl, hw, hq⟩ := ht
      obtain rfl : w = .null := hw
      cases h
      exact ⟨_, rfl, _, _, _, rfl, hl, hq, hs⟩
    · rename_i a r
      split at h
      · rename_i ha
        obtain ⟨w, q, rfl, ⟨b, rfl, g⟩, hq⟩ := ht
        have hb : b < 1000000 ∨ (1000100 ≤ b ∧ b < 1000126) := by
          rcases g with ⟨g1, g2⟩ | ⟨g1, g2⟩
          · exact Or.inl (by omega)
          · rw [g2]; exact ha
        cases h
        exact ⟨_, if_pos hb, _, _, _, rfl, hl, hq, hs⟩
      · cases h
    · cases h
  case ifnonnull z =>
    simp only [stp] at h
    split at h
    · rename_i r
      obtain ⟨w, q, rfl, hw, hq⟩ := ht
      obtain rfl : w = .null := hw
      cases h
      exact ⟨_, rfl, _, _, _, rfl, hl, hq, hs⟩
    · rename_i a r
      split at h
      · rename_i ha
        obtain ⟨w, q, rfl, ⟨b, rfl, g⟩, hq⟩ := ht
        have hb : b < 1000000 ∨ (1000100 ≤ b ∧ b < 1000126) := by
          rcases g with ⟨g1, g2⟩ | ⟨g1, g2⟩
          · exact Or.inl (by omega)
          · rw [g2]; exact ha
        cases h
        exact ⟨_, if_pos hb, _, _, _, rfl, hl, hq, hs⟩
      · cases h
    · cases h
  case checkcast n =>
    simp only [stp] at h
    split at h
    · rename_i z pl a r
      split at h
      · rename_i ha
        split at h
        · rename_i t n f hra
          split at h
          · rename_i hz
            obtain ⟨w, q, rfl, ⟨b, rfl, g⟩, hq⟩ := ht
            obtain ⟨p1, p2⟩ := shs_in hN g ha
            subst p1
            obtain ⟨p3, e2, g1, g2⟩ := hs.1 a _ hra
            obtain rfl : e2 = _ := g2
            cases h
            exact ⟨_, by simp only [stp, g1, if_pos p2]; exact if_pos hz, _, _, _, rfl, hl, ⟨_, _, rfl, ⟨_, rfl, g⟩, hq⟩, hs⟩
          · cases h
        · cases h
      · cases h
    · cases h
  case tableswitch df lo hi offs =>
    simp only [stp] at h
    split at h
    · rename_i x r
      obtain ⟨w, q, rfl, hw, hq⟩ := ht
      obtain rfl : w = .int x := hw
      split at h
      · rename_i hx
        cases h
        exact ⟨_, if_pos hx, _, _, _, rfl, hl, hq, hs⟩
      · rename_i hx
        split at h
        · rename_i t htt
          cases h
          exact ⟨_, by simp only [stp]; rw [if_neg hx]; simp only [htt], _, _, _, rfl, hl, hq, hs⟩
        · cases h
    · cases h
  case arraylength =>
    simp only [stp] at h
    split at h
    · rename_i a r
      split at h
      · rename_i t' n f hrd
        split at h
        · rename_i hc
          obtain ⟨w, q, rfl, ⟨b, rfl, g⟩, hq⟩ := ht
          obtain ⟨e2, g1, g2⟩ := shs_rd hs hN g hrd
          have g3 : ∃ f2, e2 = .inl (t', (n, f2)) := by
            obtain y | y | y | y | y := f
            · exact ⟨_, g2⟩
            · exact ⟨_, g2⟩
            · exact ⟨_, g2⟩
            · exact ⟨_, g2⟩
            · obtain ⟨y2, g6, -⟩ := g2
              exact ⟨_, g6⟩
          obtain ⟨f2, rfl⟩ := g3
          have hc2 : t' = 0 ∨ t' = 1 ∨ (4 ≤ t' ∧ t' ≤ 8 ∧ b < 1000000) := by
            rcases hc with h1 | h1 | ⟨h1, h2, h3⟩
            · exact Or.inl h1
            · exact Or.inr (Or.inl h1)
            · exact Or.inr (Or.inr ⟨h1, h2, (shs_in hN g h3).2⟩)
          cases h
          exact ⟨_, by simp only [stp, g1]; exact if_pos hc2, _, _, _, rfl, hl, ⟨_, _, rfl, rfl, hq⟩, hs⟩
        · cases h
      · cases h
    · cases h
  case getfield n =>
    simp only [stp] at h ⊢
    split at h
    · exact sh_get hN hl ht hs h
    · cases h
  case putfield n =>
    simp only [stp] at h ⊢
    split at h
    · exact sh_put hN hl ht hs h
    · cases h
  case new n =>
    simp only [stp] at h ⊢
    split at h
    · exact sh_alloc hN hl ht hs she_def h
    · split at h
      · rename_i hc
        cases h
        exact ⟨_, if_pos ⟨hc8 ht hc.1, by rw [hs.2.1]; omega⟩, rfl⟩
      · cases h
    · cases h
  case newarray ty =>
    simp only [stp] at h
    split at h
    · rename_i t n r
      obtain ⟨w, q, rfl, hw, hq⟩ := ht
      obtain rfl : w = .int n := hw
      split at h
      · rename_i hc
        obtain ⟨o2, g1, g2⟩ := sh_alloc (e2 := .inl (t.toNat, xzero t.toNat n.toNatClampNeg)) hN hl hq hs (by unfold xzero; split <;> exact rfl) h
        exact ⟨o2, by simp only [stp]; rw [if_pos hc]; exact g1, g2⟩
      · cases h
    · cases h
  case anewarray ix =>
    simp only [stp] at h
    split at h
    · rename_i t pl n r
      obtain ⟨w, q, rfl, hw, hq⟩ := ht
      obtain rfl : w = .int n := hw
      split at h
      · rename_i hc
        obtain ⟨o2, g1, g2⟩ := sh_alloc (e2 := .inl (t.toNat, (n.toNatClampNeg, .inr (.inr (.inr (.inr (fun _ => none))))))) hN hl hq hs (by exact ⟨_, rfl, fun j => ⟨fun _ => rfl, fun b hb => (by cases hb)⟩⟩) h
        exact ⟨o2, by simp only [stp]; rw [if_pos hc]; exact g1, g2⟩
      · cases h
    · cases h
  case lreturn =>
    simp only [stp] at h
    split at h
    · rename_i v
      obtain ⟨w, q, rfl, hw, hq⟩ := ht
      obtain rfl : w = .long v := hw
      obtain rfl : q = [] := hq
      cases h
      exact ⟨_, rfl, _, rfl, rfl⟩
    · cases h
  case areturn =>
    simp only [stp] at h
    split at h
    · rename_i v
      obtain ⟨w, q, rfl, ⟨b, rfl, g⟩, hq⟩ := ht
      obtain rfl : q = [] := hq
      cases h
      exact ⟨_, rfl, _, rfl, b, rfl, g⟩
    · cases h
  case return_ =>
    simp only [stp] at h
    split at h
    · obtain rfl : s2 = [] := ht
      cases h
      exact ⟨_, rfl, rfl⟩
    · cases h
end
/-- what comes of a run, on the two sides -/
def shR (m N : Nat) (r r2 : xR) : Prop := match r with
  | .inl none => r2 = .inl none
  | .inl (some v) => ∃ w, r2 = .inl (some w) ∧ shv m N v w
  | .inr e => r2 = .inr e
theorem sh_ax {m k : Nat} : ∀ (n d κ i : Nat) (ls : xL) (st : List Value) (σ : xS) (r : xR) (σ' : xS), ax n d κ i ls st σ = some (r, σ') → σ'.2.1.1 + m ≤ 890000 → ∀ (l2 : xL) (s2 : List Value) (τ : xS), shl m σ.2.1.1 ls l2 → sht m σ.2.1.1 st s2 → shs m k σ τ →
    ∃ r2 τ', ax n d κ i l2 s2 τ = some (r2, τ') ∧ (shR m σ'.2.1.1 r r2 ∧ shs m k σ' τ') := by
  intro n
  induction n with
  | zero => intro d κ i ls st σ r σ' h; cases h
  | succ n ih =>
    intro d κ i ls st σ r σ' h hb l2 s2 τ hl ht hs
    have hmono := xmonoR _ _ _ _ _ _ _ _ _ h
    have hN : σ.2.1.1 + m ≤ 890000 := by have := hmono.1; omega
    simp only [ax] at h ⊢
    split at h
    · cases h
    · rename_i q hq
      split at h
      · cases h
      · rename_i i1 ls1 st1 σ1 hst
        obtain ⟨o2, g1, l3, s3, τ1, rfl, g2, g3, g4⟩ := shstp hN hl ht hs hst
        simp only [g1]
        exact ih _ _ _ _ _ _ _ _ h hb _ _ _ g2 g3 g4
      · rename_i k' as rest hst
        obtain ⟨o2, g1, a2, r2, rfl, g2, g3⟩ := shstp hN hl ht hs hst
        simp only [g1]
        cases d with
        | zero => cases h
        | succ d' =>
          simp only at h ⊢
          split at h
          · cases h
          · rename_i v σ1 hcall
            have m1 := xmonoR _ _ _ _ _ _ _ _ _ hcall
            have m2 := xmonoR _ _ _ _ _ _ _ _ _ h
            obtain ⟨r3, τ1, g4, g5, g6⟩ := ih _ _ _ _ _ _ _ _ hcall (by have := m2.1; omega) _ _ _ (xentry_sh g2) rfl hs
            have g7 : ∃ v2, r3 = .inl v2 ∧ sht m σ1.2.1.1 (v.toList ++ rest) (v2.toList ++ r2) := by
              cases v with
              | none =>
                obtain rfl := g5
                exact ⟨none, rfl, sht_le m1.1 _ _ g3⟩
              | some v =>
                obtain ⟨w, rfl, g8⟩ := g5
                exact ⟨some w, rfl, w, r2, rfl, g8, sht_le m1.1 _ _ g3⟩
            obtain ⟨v2, rfl, g8⟩ := g7
            simp only [g4]
            exact ih _ _ _ _ _ _ _ _ h hb _ _ _ (shl_le m1.1 hl) g8 g6
          · rename_i e σ1 hcall
            have m1 := xmonoR _ _ _ _ _ _ _ _ _ hcall
            split at h
            · cases h
            · rename_i hd hhd
              have m2 := xmonoR _ _ _ _ _ _ _ _ _ h
              obtain ⟨r3, τ1, g4, g5, g6⟩ := ih _ _ _ _ _ _ _ _ hcall (by have := m2.1; omega) _ _ _ (xentry_sh g2) rfl hs
              obtain rfl : r3 = .inr e := g5
              simp only [g4, hhd]
              exact ih _ _ _ _ _ _ _ _ h hb _ _ _ (shl_setn (shl_kill (shl_le m1.1 hl))) rfl g6
      · rename_i v hst
        cases h
        obtain ⟨o2, g1, g2⟩ := shstp hN hl ht hs hst
        cases v with
        | none =>
          obtain rfl := g2
          simp only [g1]
          exact ⟨_, _, rfl, rfl, hs⟩
        | some v =>
          obtain ⟨w, rfl, g3⟩ := g2
          simp only [g1]
          exact ⟨_, _, rfl, ⟨w, rfl, g3⟩, hs⟩
      · rename_i e hst
        cases h
        obtain ⟨o2, g1, g2⟩ := shstp hN hl ht hs hst
        obtain rfl := g2
        simp only [g1]
        refine ⟨_, _, rfl, rfl, fun a u hu => ?_, by show τ.2.1.1 + 1 = σ.2.1.1 + 1 + m; rw [hs.2.1]; omega, by show τ.2.1.2 + 6 = σ.2.1.2 + 6 + k; rw [hs.2.2.1]; omega, hs.2.2.2⟩
        obtain ⟨q1, v2, q2, q3⟩ := hs.1 a u hu
        exact ⟨by show a < σ.2.1.1 + 1; omega, v2, q2, she_le (by show σ.2.1.1 ≤ σ.2.1.1 + 1; omega) q3⟩
